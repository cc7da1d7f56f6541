/-! ===== work, undo, image, restore ===== -/
section ZX12g
variable {l : Launch} {Xi : zXi} {d : Nat} {I : zI} {g : zG}
def zGi (l : Launch) (Xi : zXi) (M : zM) (d kc ks : Nat) (av : List Value) (I : zI) (g : zG) (Q : Int32 → zI → zG → Prop) : Prop := zC l Xi M d kc ks av (I, g) (fun r h' => ∃ v J g', r = .inl (some (.int v)) ∧ h' = (J, g') ∧ gE g g' ∧ Q v J g')
theorem zP_gcallV {M M' : zM} {pc idx ci b d' kc ks : Nat} {Ls : List (Option Value)} {St : List Value} {post : zR → zH → Prop} {Q : zI → zG → Prop} (As rest : List Value) (lk : zLV M.1 idx M' ci As.length) (hC : zC l Xi M' d' kc ks (.ref b :: As) (I, g) (fun r h' => r = .inl none ∧ ∃ J g', h' = (J, g') ∧ Q J g')) (ho : zOb g b ci) (hst : St = As.reverse ++ .ref b :: rest) (hd1 : d' + 1 ≤ d) (hcat : (rest.map fun v => v.category).sum ≤ 8) (hM : M.2.2.2.2.2 = []) (hd : decode M.2.2.1 pc = .ok (.invokevirtual idx, 3))
    (kk : ∀ J g', Q J g' → zJ l Xi M d 0 0 (pc + 3) Ls rest (J, g') post) : zJ l Xi M d kc ks pc Ls St (I, g) post :=
  zJ_wid (kc := 0 + kc) (ks := 0 + ks) (by omega) (by omega) (zJ_callV (h := (I, g)) (kc := 0) (ks := 0) As rest lk hC ho.1 ho.2 hst hd1 hcat hM hd (fun E h1 q _ => by cases q.1) (fun r h1 q _ => by obtain ⟨q1, J, g', q2, q3⟩ := q; cases q1; rw [q2]; exact kk J g' q3))
theorem zSt_gE {g' : zG} (hs : zSt g) (h : gE g g') : zSt g' := by
  have h1 := hs.1
  refine ⟨Nat.le_trans hs.1 h.1, fun k hk => by rw [h.2.2.1 k (by omega)]; exact hs.2.1 k hk, fun k j a hk ha => ?_⟩
  by_cases e : k = 58 ∨ k = 59 ∨ k = 60
  · rcases e with rfl | rfl | rfl <;> cases ha
  · rw [h.2.2.2.1 k (by omega) (by omega) (by omega) (by omega)]; exact hs.2.2 k j a hk ha
theorem kdW_le {bs : Nat → Nat} {a w : Nat} : kdW bs a w ≤ 7 := by
  unfold kdW
  repeat' split
  all_goals omega
theorem pW_kl {bs : Nat → Nat} {L N C R f m o b A A' : Nat} {c : List tok} (h : pW bs L N C R f m o b A = .inr (c, A')) : ∀ t ∈ c, t.1 ≤ 7 := by
  induction f generalizing m o b A A' c with
  | zero => cases h
  | succ f ih =>
    rw [pW] at h
    split at h
    · split at h
      · cases h; exact fun t ht => absurd ht List.not_mem_nil
      · obtain ⟨c1, a1, e1, h⟩ := pbind_ok h
        obtain ⟨c2, a2, e2, h⟩ := pbind_ok h
        cases h
        intro t ht
        rcases List.mem_append.mp ht with z | z
        · exact ih e1 t z
        · exact ih e2 t z
    · split at h
      · cases h
      · split at h
        · split at h
          · cases h
          · obtain ⟨n, a1, e1, h⟩ := pbind_ok h
            obtain ⟨_, a2, e2, h⟩ := pbind_ok h
            obtain ⟨c1, a3, e3, h⟩ := pbind_ok h
            obtain ⟨_, a4, e4, h⟩ := pbind_ok h
            obtain ⟨_, a5, e5, h⟩ := pbind_ok h
            cases h
            intro t ht
            rcases List.mem_append.mp ht with z | z
            · rcases List.mem_append.mp z with z | z
              · rw [List.mem_singleton.mp z]; exact (by decide : (6 : Nat) ≤ 7)
              · exact ih e3 t z
            · rw [List.mem_singleton.mp z]; exact (by decide : (7 : Nat) ≤ 7)
        · obtain ⟨q, a1, e1, h⟩ := pbind_ok h
          obtain ⟨_, a2, e2, h⟩ := pbind_ok h
          cases h
          intro t ht
          rw [List.mem_singleton.mp ht]; exact kdW_le
noncomputable def exR (b : zWo) (ts : List tok) (R : rwT) : xs := (exW b ts (42 * ts.length + 1) 0 0 0 ts.length (0, 0, 0, R)).getD (0, 0, 0, R)
/-- what a work makes of the whole -/
noncomputable def wkN (S : sT) (ts : List tok) : sT := ((0, S.1.2.1, -1), S.2.1, (exR S.2.1 ts S.2.2.1).2.2.2, S.2.2.2.1, (S.2.2.2.2.1.1 + 1, un S.2.2.2.2.1.2 S.2.2.2.2.1.1 S.2.2.1), S.2.2.2.2.2.1, ((exR S.2.1 ts S.2.2.1).2.2.1, S.2.2.2.2.2.2.2))
def fulS (S : sT) : sT := ((0, S.1.2.1, -1), S.2)
noncomputable def wrkQ (S : sT) (L : Nat) (I : zI) (v : Int32) (J : zI) (g : zG) : Prop := fC I J ∧ if 16 ≤ S.2.2.2.2.1.1 then v = -20 ∧ cI J g (fulS S) else match pW S.1.2.1 L (bN S.2.1) (bC S.2.1) (bR S.2.1) 400 0 0 0 0 with
  | .inl q => v = errV q ∧ cI J g (fltS S q.2)
  | .inr q => v = nI (exR S.2.1 q.1 S.2.2.1).2.1 ∧ cI J g (wkN S q.1) ∧ okS (wkN S q.1)
theorem k_work (hl : l.stackTraces = false) (hd : 12 ≤ d) (hs : zSt g) {S : sT} (hI : cI I g S) (hok : okS S) {L : Nat} (hL : L ≤ S.1.1) (hL2 : L ≤ 150) (hB : g.1 + 10 < zB) (h643 : 643 ≤ g.1) : zGi l Xi mX12_work d 6 588 [.ref 0, .int (nI L)] I g (wrkQ S L I) := by
  refine zC_of hl rfl rfl rfl (Nat.le_of_ble_eq_true rfl) (zav_r (zSt_ob hs 0 12 rfl).1 (zav_i zav_0)) ?_
  have h600 := hI.1.2.1
  have hI0 := hI
  obtain ⟨i1, i2, i3, i4, i5, i6, i7, i8, i9⟩ := hI0
  have hB3 := i3.2.1
  have hN6 := i3.1.2.2.2.2.1
  have hw16 := i6.1.2.1
  obtain ⟨P, hP⟩ : ∃ P, pW S.1.2.1 L (bN S.2.1) (bC S.2.1) (bR S.2.1) 400 0 0 0 0 = P := ⟨_, rfl⟩
  unfold wrkQ
  rw [hP]
  by_cases hz : 16 ≤ S.2.2.2.2.1.1
  · simp only [if_pos hz]
    refine zJ_aload_n dX12_work_0 rfl ?_
    refine zJ_iload_n dX12_work_1 rfl ?_
    refine zJ_sipush (v := nI 150) dX12_work_2 rfl ?_
    refine zP_callVv [_, _] _ lv_X12_115 (k_needLength (d := d - 1) hl (by omega) hs (k_length hI hL2 hL (by omega))) (zSt_ob hs 0 12 rfl) rfl (by omega) (Nat.le_of_ble_eq_true rfl) rfl dX12_work_5 ?_
    refine zJ_aload_n dX12_work_8 rfl ?_
    refine zP_getr lf_X12_90 (zSt_ob hs 0 12 rfl) rfl (zSt_rf hs 0 12 57 rfl) dX12_work_9 ?_
    refine zP_geti lf_X12_143 (zSt_ob hs 57 7 rfl) rfl dX12_work_12 ?_
    rw [i6.1.1]
    refine zJ_bipush (v := nI 16) dX12_work_15 rfl ?_
    refine zJ_icmp_lt 31 dX12_work_17 (by decide) (fun c17 => absurd c17 (nI_nlt hz (by omega))) (fun _ => ?_)
    refine zJ_aload_n dX12_work_20 rfl ?_
    refine zP_getr lf_X12_12 (zSt_ob hs 0 12 rfl) rfl (zSt_rf hs 0 0 1 rfl) dX12_work_21 ?_
    refine zJ_iconst (v := nI 0) dX12_work_24 rfl ?_
    refine zP_ecallVv [_] _ lv_X12_119 (k_begin (L := 0) (d := d - 1) hl (by omega) hs i1 (by omega)) (zSt_ob hs 1 10 rfl) rfl (by omega) (Nat.le_of_ble_eq_true rfl) rfl dX12_work_25 (fun J1 h1 => ?_)
    refine zJ_bipush (v := -20) dX12_work_28 rfl ?_
    refine zJ_iret rfl dX12_work_30 ?_
    obtain ⟨tp2, fl2⟩ := tX_tp h1.2
    have h9 := cI_tape hI (fun a q1 q2 q3 q4 _ => h1.1 a q1) tp2 fl2
    exact ⟨_, J1, g, rfl, rfl, gE_rfl, h9.2, rfl, h9.1⟩
  simp only [if_neg hz]
  refine zJ_aload_n dX12_work_0 rfl ?_
  refine zJ_iload_n dX12_work_1 rfl ?_
  refine zJ_sipush (v := nI 150) dX12_work_2 rfl ?_
  refine zP_callVv [_, _] _ lv_X12_115 (k_needLength (d := d - 1) hl (by omega) hs (k_length hI hL2 hL (by omega))) (zSt_ob hs 0 12 rfl) rfl (by omega) (Nat.le_of_ble_eq_true rfl) rfl dX12_work_5 ?_
  refine zJ_aload_n dX12_work_8 rfl ?_
  refine zP_getr lf_X12_90 (zSt_ob hs 0 12 rfl) rfl (zSt_rf hs 0 12 57 rfl) dX12_work_9 ?_
  refine zP_geti lf_X12_143 (zSt_ob hs 57 7 rfl) rfl dX12_work_12 ?_
  rw [i6.1.1]
  refine zJ_bipush (v := nI 16) dX12_work_15 rfl ?_
  refine zJ_icmp_lt 31 dX12_work_17 (by decide) (fun _ => ?_) (fun c17 => absurd (nI_lt (by omega) (by omega)) c17)
  refine zJ_aload_n dX12_work_31 rfl ?_
  refine zP_getr lf_X12_12 (zSt_ob hs 0 12 rfl) rfl (zSt_rf hs 0 0 1 rfl) dX12_work_32 ?_
  refine zJ_iload_n dX12_work_35 rfl ?_
  refine zP_ecallVv [_] _ lv_X12_119 (k_begin (d := d - 1) hl (by omega) hs i1 (by omega)) (zSt_ob hs 1 10 rfl) rfl (by omega) (Nat.le_of_ble_eq_true rfl) rfl dX12_work_36 (fun J1 h1 => ?_)
  refine zJ_aload_n dX12_work_39 rfl ?_
  refine zP_getr lf_X12_49 (zSt_ob hs 0 12 rfl) rfl (zSt_rf hs 0 7 35 rfl) dX12_work_40 ?_
  refine zJ_aload_n dX12_work_43 rfl ?_
  refine zP_getr lf_X12_12 (zSt_ob hs 0 12 rfl) rfl (zSt_rf hs 0 0 1 rfl) dX12_work_44 ?_
  refine zJ_aload_n dX12_work_47 rfl ?_
  refine zP_getr lf_X12_19 (zSt_ob hs 0 12 rfl) rfl (zSt_rf hs 0 1 3 rfl) dX12_work_48 ?_
  refine zP_ecallVv [_, _] _ lv_X12_146 (k_workRead (d := d - 1) hl (by omega) hs h1.2 hL2 (by rw [h1.1 3 (by decide)]; exact hB3.1) (by rw [h1.1 3 (by decide)]; exact hB3.2.1) (by rw [h1.1 3 (by decide)]; exact hB3.2.2.1) i3.1.2.1 i3.1.2.2.2.1 hN6) (zSt_ob hs 35 11 rfl) rfl (by omega) (Nat.le_of_ble_eq_true rfl) rfl dX12_work_51 (fun J2 h2 => ?_)
  obtain ⟨f2, A2, F2, p2⟩ := h2
  rw [hP] at p2
  refine zJ_aload_n dX12_work_54 rfl ?_
  refine zP_getr lf_X12_12 (zSt_ob hs 0 12 rfl) rfl (zSt_rf hs 0 0 1 rfl) dX12_work_55 ?_
  refine zP_callVi [] _ lv_X12_126 (k_failedP (d := d - 1) hl (by omega) hs p2) (zSt_ob hs 1 10 rfl) rfl (by omega) (Nat.le_of_ble_eq_true rfl) rfl dX12_work_58 ?_
  refine zJ_if_eq 75 dX12_work_61 (by decide) (fun c61 => ?_) (fun c61 => ?_)
  · replace c61 := zb0.mp c61
    obtain ⟨ts, hr, hr1⟩ := toE_ok p2 c61
    rw [hr] at p2 ⊢
    obtain ⟨tp2, fl2⟩ := tX_tp p2.1
    have fAll : ∀ a, a ≠ 1 → (a < 35 ∨ 39 < a) → J2 a = I a := fun a q1 q2 => by rw [f2 a q1 q2, h1.1 a q1]
    have i6' := shI_of i6 (fun q hq => fAll q (by omega) (by omega))
    have hsq := pW_sq (hP.trans hr) (Nat.zero_le _) [] [] rfl
    have hkl := pW_kl (hP.trans hr)
    simp only [List.nil_append, List.append_nil, Nat.zero_add] at hsq
    have hkl2 : ∀ i, i < ts.length → (tk ts i).1 ≤ 7 := fun i hi => by
      unfold tk
      rw [List.getD_eq_getElem?_getD, List.getElem?_eq_getElem hi]
      exact hkl _ (List.getElem_mem hi)
    have hfu := (exW_fuel (b := S.2.1) (f := 42 * ts.length + 1) (k := 0) (s := (0, 0, 0, S.2.2.1)) hsq.1 (Nat.zero_le _)).1 (by omega)
    obtain ⟨FIN, hFIN⟩ : ∃ F, exW S.2.1 ts (42 * ts.length + 1) 0 0 0 ts.length (0, 0, 0, S.2.2.1) = some F := by
      cases e : exW S.2.1 ts (42 * ts.length + 1) 0 0 0 ts.length (0, 0, 0, S.2.2.1) with
      | none => exact absurd e hfu
      | some F => exact ⟨F, rfl⟩
    have hex : exR S.2.1 ts S.2.2.1 = FIN := by unfold exR; rw [hFIN]; rfl
    refine zJ_aload_n dX12_work_75 rfl ?_
    refine zP_getr lf_X12_90 (zSt_ob hs 0 12 rfl) rfl (zSt_rf hs 0 12 57 rfl) dX12_work_76 ?_
    refine zJ_aload_n dX12_work_79 rfl ?_
    refine zP_getr lf_X12_97 (zSt_ob hs 0 12 rfl) rfl (zSt_rf hs 0 13 62 rfl) dX12_work_80 ?_
    refine zP_gcallV [.ref 62] [] lv_X12_149 (k_keepWork (d := d - 1) hl (by omega) hs i6' (by omega) (zRow_of i4 (fun a q1 q2 => fAll a (by omega) (by omega))) hB h643) (zSt_ob hs 57 7 rfl) rfl (by omega) (by decide) rfl dX12_work_83 (fun J3 g3 h3 => ?_)
    obtain ⟨hE, hJ3, sh3⟩ := h3
    have hs3 := zSt_gE hs hE
    have e3 : ∀ a, a ≤ 642 → a ≠ 57 → J3 a = J2 a := hJ3
    have i3' : zWi J3 S.2.1 := zWi_of i3 (fun a ha => by rw [e3 a (by omega) (by omega), fAll a (by omega) (by omega)])
    have i4' : zRow J3 62 S.2.2.1 := zRow_of i4 (fun a q1 q2 => by rw [e3 a (by omega) (by omega), fAll a (by omega) (by omega)])
    have w3 : wk J3 ts 0 (fun _ => 0) := by
      unfold wk at hr1 ⊢
      rw [e3 35 (by decide) (by decide), e3 36 (by decide) (by decide), e3 37 (by decide) (by decide), e3 38 (by decide) (by decide), e3 39 (by decide) (by decide)]
      exact hr1
    clear hs i6'
    have hs := hs3
    refine zJ_aload_n dX12_work_86 rfl ?_
    refine zP_getr lf_X12_49 (zSt_ob hs 0 12 rfl) rfl (zSt_rf hs 0 7 35 rfl) dX12_work_87 ?_
    refine zJ_aload_n dX12_work_90 rfl ?_
    refine zP_getr lf_X12_67 (zSt_ob hs 0 12 rfl) rfl (zSt_rf hs 0 9 43 rfl) dX12_work_91 ?_
    refine zJ_aload_n dX12_work_94 rfl ?_
    refine zP_getr lf_X12_97 (zSt_ob hs 0 12 rfl) rfl (zSt_rf hs 0 13 62 rfl) dX12_work_95 ?_
    refine zP_ecallVi [_, _] _ lv_X12_153 (k_run (d := d - 1) hl (by omega) hs i3' hok.1 i4' hok.2.1 w3 hsq.1 (fun i hi => hkl2 i hi) hsq.2 hFIN) (zSt_ob hs 35 11 rfl) rfl (by omega) (Nat.le_of_ble_eq_true rfl) rfl dX12_work_98 (fun x J4 h4 => ?_)
    obtain ⟨rfl, r1, r2, r3, r4, r5, r6⟩ := h4
    refine zJ_istore_m 2 dX12_work_101 rfl (Nat.le_of_ble_eq_true rfl) (by decide) ?_
    refine zJ_aload_n dX12_work_102 rfl ?_
    refine zJ_aload_n dX12_work_103 rfl ?_
    refine zP_getr lf_X12_49 (zSt_ob hs 0 12 rfl) rfl (zSt_rf hs 0 7 35 rfl) dX12_work_104 ?_
    refine zP_geti lf_X12_157 (zSt_ob hs 35 11 rfl) rfl dX12_work_107 ?_
    rw [r3]
    refine zP_puti lf_X12_160 (zSt_ob hs 0 12 rfl) rfl dX12_work_110 ?_
    refine zJ_iload_n dX12_work_113 rfl ?_
    refine zJ_iret rfl dX12_work_114 ?_
    have hz2 : ∀ a, a ≠ 0 → zup J4 0 15 (nI FIN.2.2.1) a = J4 a := fun a ha => zup_row ha
    have e4 : ∀ a, a ≠ 0 → a ≠ 1 → (a < 22 ∨ a = 23 ∨ (24 < a ∧ a < 35) ∨ (48 < a ∧ a < 57) ∨ (57 < a ∧ a < 62) ∨ (67 < a ∧ a ≤ 642)) → zup J4 0 15 (nI FIN.2.2.1) a = I a := fun a ha h1 h2 => by rw [hz2 a ha, r1 a (by omega) (by omega) (by omega) (by omega) (by omega) (by omega) (by omega) (by omega) (by omega) (by omega) (by omega), e3 a (by omega) (by omega), fAll a h1 (by omega)]
    have e41 : zup J4 0 15 (nI FIN.2.2.1) 1 = J2 1 := by rw [hz2 1 (by decide), r1 1 (by decide) (by decide) (by decide) (by decide) (by decide) (by decide) (by decide) (by decide) (by decide) (by decide) (by decide), e3 1 (by decide) (by decide)]
    have e42 : zup J4 0 15 (nI FIN.2.2.1) 2 = J2 2 := by rw [hz2 2 (by decide), r1 2 (by decide) (by decide) (by decide) (by decide) (by decide) (by decide) (by decide) (by decide) (by decide) (by decide) (by decide), e3 2 (by decide) (by decide)]
    have e40 : ∀ k, k ≠ 15 → zup J4 0 15 (nI FIN.2.2.1) 0 k = I 0 k := fun k hk => by rw [zup_same, upd_ne hk, r1 0 (by decide) (by decide) (by decide) (by decide) (by decide) (by decide) (by decide) (by decide) (by decide) (by decide) (by decide), e3 0 (by decide) (by decide), fAll 0 (by decide) (by decide)]
    have hok4 : okS (wkN S ts) := by
      unfold wkN
      rw [hex]
      refine ⟨hok.1, r6, fun i hi => ?_, hok.2.2.2⟩
      show okR S.2.1 (un S.2.2.2.2.1.2 S.2.2.2.2.1.1 S.2.2.1 i)
      unfold un
      split
      · exact hok.2.1
      · exact hok.2.2.1 i (by have : i < S.2.2.2.2.1.1 + 1 := hi; omega)
    refine ⟨_, _, g3, rfl, rfl, hE, fun a q1 q2 => e4 a (by omega) (by omega) (by omega), by rw [hex], ?_, hok4⟩
    unfold wkN
    rw [hex]
    refine ⟨tp_of tp2 e41 e42, by rw [e41]; exact fl2, zWi_of i3 (fun a ha => e4 a (by omega) (by omega) (by omega)), zRow_zup r5 (by omega), zBk_of i5 (fun a q1 q2 => e4 a (by omega) (by omega) (by omega)), shI_of sh3 (fun q hq => ?_), by rw [zup_same, upd_at], by rw [e40 16 (by decide)]; exact i8, by rw [e40 17 (by decide)]; exact i9⟩
    rw [hz2 q (by omega), r1 q (by omega) (by omega) (by omega) (by omega) (by omega) (by omega) (by omega) (by omega) (by omega) (by omega) (by omega)]
  · replace c61 := zb1.mp c61
    refine zJ_aload_n dX12_work_64 rfl ?_
    refine zP_getr lf_X12_12 (zSt_ob hs 0 12 rfl) rfl (zSt_rf hs 0 0 1 rfl) dX12_work_65 ?_
    obtain ⟨q, rfl⟩ := toE_no c61
    refine zP_geti lf_X12_130 (zSt_ob hs 1 10 rfl) rfl dX12_work_68 ?_
    rw [tX_k p2.1]
    refine zJ_bipush (v := nI 10) dX12_work_71 rfl ?_
    refine zJ_isub dX12_work_73 ?_
    refine zJ_iret rfl dX12_work_74 ?_
    obtain ⟨tp2, fl2⟩ := tX_tp p2.1
    have h9 := cI_tape hI (fun a q1 q2 q3 q4 _ => by rw [f2 a q1 (by omega), h1.1 a q1]) tp2 fl2
    exact ⟨_, J2, g, rfl, rfl, gE_rfl, h9.2, rfl, h9.1⟩
/-- undo, image, restore -/
def undS (S : sT) : sT := (S.1, S.2.1, S.2.2.2.2.1.2 (S.2.2.2.2.1.1 - 1), S.2.2.2.1, (S.2.2.2.2.1.1 - 1, S.2.2.2.2.1.2), S.2.2.2.2.2.1, (0, S.2.2.2.2.2.2.2))
def undQ (S : sT) (g : zG) (v : Int32) (J : zI) : Prop := if S.2.2.2.2.1.1 = 0 then v = -1 ∧ cI J g S else v = nI (S.2.2.2.2.1.1 - 1) ∧ cI J g (undS S)
theorem okS_und {S : sT} (h : okS S) (hz : S.2.2.2.2.1.1 ≠ 0) : okS (undS S) := ⟨h.1, h.2.2.1 _ (by omega), fun i hi => h.2.2.1 i (by have : i < S.2.2.2.2.1.1 - 1 := hi; omega), h.2.2.2⟩
theorem k_undo (hl : l.stackTraces = false) (hd : 12 ≤ d) (hs : zSt g) {S : sT} (hI : cI I g S) : zEi l Xi mX12_undo d [.ref 0] I g (fun v J => fC I J ∧ undQ S g v J) := by
  refine zC_of hl rfl rfl rfl (Nat.le_of_ble_eq_true rfl) (zav_r (zSt_ob hs 0 12 rfl).1 zav_0) ?_
  have hI0 := hI
  obtain ⟨i1, i2, i3, i4, i5, i6, i7, i8, i9⟩ := hI0
  have hw16 := i6.1.2.1
  unfold undQ
  by_cases hz : S.2.2.2.2.1.1 = 0
  · simp only [if_pos hz]
    refine zJ_aload_n dX12_undo_0 rfl ?_
    refine zP_getr lf_X12_90 (zSt_ob hs 0 12 rfl) rfl (zSt_rf hs 0 12 57 rfl) dX12_undo_1 ?_
    refine zP_geti lf_X12_143 (zSt_ob hs 57 7 rfl) rfl dX12_undo_4 ?_
    rw [i6.1.1, hz]
    refine zJ_if_ne 12 dX12_undo_7 (by decide) (fun c7 => absurd rfl c7) (fun _ => ?_)
    refine zJ_iconst (v := -1) dX12_undo_10 rfl ?_
    refine zJ_iret rfl dX12_undo_11 ?_
    exact ⟨_, I, rfl, rfl, fun _ _ _ => rfl, rfl, hI⟩
  simp only [if_neg hz]
  obtain ⟨w, hw⟩ : ∃ w, S.2.2.2.2.1.1 = w + 1 := ⟨S.2.2.2.2.1.1 - 1, by omega⟩
  have i6' := i6
  rw [hw] at i6'
  refine zJ_aload_n dX12_undo_0 rfl ?_
  refine zP_getr lf_X12_90 (zSt_ob hs 0 12 rfl) rfl (zSt_rf hs 0 12 57 rfl) dX12_undo_1 ?_
  refine zP_geti lf_X12_143 (zSt_ob hs 57 7 rfl) rfl dX12_undo_4 ?_
  rw [i6.1.1]
  refine zJ_if_ne 12 dX12_undo_7 (by decide) (fun _ => ?_) (fun c7 => absurd c7 (nI_ne0 (by omega) (by omega)))
  refine zJ_aload_n dX12_undo_12 rfl ?_
  refine zP_getr lf_X12_90 (zSt_ob hs 0 12 rfl) rfl (zSt_rf hs 0 12 57 rfl) dX12_undo_13 ?_
  refine zJ_aload_n dX12_undo_16 rfl ?_
  refine zP_getr lf_X12_97 (zSt_ob hs 0 12 rfl) rfl (zSt_rf hs 0 13 62 rfl) dX12_undo_17 ?_
  refine zP_ecallVv [_] _ lv_X12_173 (k_takeWork (d := d - 1) hl (by omega) hs i6') (zSt_ob hs 57 7 rfl) rfl (by omega) (Nat.le_of_ble_eq_true rfl) rfl dX12_undo_20 (fun J1 h1 => ?_)
  refine zJ_aload_n dX12_undo_23 rfl ?_
  refine zJ_iconst (v := nI 0) dX12_undo_24 rfl ?_
  refine zP_puti lf_X12_160 (zSt_ob hs 0 12 rfl) rfl dX12_undo_25 ?_
  refine zJ_aload_n dX12_undo_28 rfl ?_
  refine zP_getr lf_X12_90 (zSt_ob hs 0 12 rfl) rfl (zSt_rf hs 0 12 57 rfl) dX12_undo_29 ?_
  refine zP_geti lf_X12_143 (zSt_ob hs 57 7 rfl) rfl dX12_undo_32 ?_
  refine zJ_iret rfl dX12_undo_35 ?_
  obtain ⟨g1, g2, g3⟩ := h1
  have e : ∀ a, a ≠ 0 → a ≠ 57 → (a < 62 ∨ 67 < a) → zup J1 0 15 (nI 0) a = I a := fun a h0 h1 h2 => by rw [zup_row h0, g1 a h1 h2]
  have e0 : ∀ k, k ≠ 15 → zup J1 0 15 (nI 0) 0 k = I 0 k := fun k hk => by rw [zup_same, upd_ne hk, g1 0 (by decide) (by decide)]
  refine ⟨_, zup J1 0 15 (nI 0), rfl, rfl, fun a q1 q2 => e a (by omega) (by omega) (by omega), ?_, ?_⟩
  · rw [zup_row (by decide), g3.1.1, hw, Nat.add_sub_cancel]
  · unfold undS
    rw [hw, Nat.add_sub_cancel]
    refine ⟨tp_of i1 (e 1 (by decide) (by decide) (by decide)) (e 2 (by decide) (by decide) (by decide)), by rw [e 1 (by decide) (by decide) (by decide)]; exact i2, zWi_of i3 (fun a ha => e a (by omega) (by omega) (by omega)), zRow_zup g2 (by omega), zBk_of i5 (fun a q1 q2 => e a (by omega) (by omega) (by omega)), shI_of g3 (fun q hq => zup_row (by omega)), by rw [zup_same, upd_at], by rw [e0 16 (by decide)]; exact i8, by rw [e0 17 (by decide)]; exact i9⟩
def imgS (S : sT) : sT := (S.1, S.2.1, S.2.2.1, S.2.2.2.1, S.2.2.2.2.1, (S.2.2.2.2.2.1.1 + 1, un S.2.2.2.2.2.1.2.1 S.2.2.2.2.2.1.1 S.2.2.1, un S.2.2.2.2.2.1.2.2.1 S.2.2.2.2.2.1.1 S.2.2.2.2.1.1, un S.2.2.2.2.2.1.2.2.2 S.2.2.2.2.2.1.1 S.2.2.2.2.1.2), S.2.2.2.2.2.2)
def imgQ (S : sT) (v : Int32) (J : zI) (g : zG) : Prop := if 3 ≤ S.2.2.2.2.2.1.1 then v = -1 ∧ cI J g S else v = nI (S.2.2.2.2.2.1.1 + 1) ∧ cI J g (imgS S)
theorem okS_img {S : sT} (h : okS S) : okS (imgS S) := ⟨h.1, h.2.1, h.2.2.1, fun k hk => by
  have hk2 : k < S.2.2.2.2.2.1.1 + 1 := hk
  show okR S.2.1 (un S.2.2.2.2.2.1.2.1 S.2.2.2.2.2.1.1 S.2.2.1 k) ∧ ∀ i, i < un S.2.2.2.2.2.1.2.2.1 S.2.2.2.2.2.1.1 S.2.2.2.2.1.1 k → okR S.2.1 (un S.2.2.2.2.2.1.2.2.2 S.2.2.2.2.2.1.1 S.2.2.2.2.1.2 k i)
  unfold un
  by_cases z : k = S.2.2.2.2.2.1.1
  · simp only [if_pos z]; exact ⟨h.2.1, h.2.2.1⟩
  · simp only [if_neg z]; exact h.2.2.2 k (by omega)⟩
theorem k_image (hl : l.stackTraces = false) (hd : 12 ≤ d) (hs : zSt g) {S : sT} (hI : cI I g S) (hB : g.1 + 10 < zB) (h643 : 643 ≤ g.1) : zGi l Xi mX12_image d 6 588 [.ref 0] I g (fun v J g' => fC I J ∧ imgQ S v J g') := by
  refine zC_of hl rfl rfl rfl (Nat.le_of_ble_eq_true rfl) (zav_r (zSt_ob hs 0 12 rfl).1 zav_0) ?_
  have hI0 := hI
  obtain ⟨i1, i2, i3, i4, i5, i6, i7, i8, i9⟩ := hI0
  have hm3 := i6.1.2.2.2
  unfold imgQ
  by_cases hz : 3 ≤ S.2.2.2.2.2.1.1
  · simp only [if_pos hz]
    refine zJ_aload_n dX12_image_0 rfl ?_
    refine zP_getr lf_X12_90 (zSt_ob hs 0 12 rfl) rfl (zSt_rf hs 0 12 57 rfl) dX12_image_1 ?_
    refine zP_geti lf_X12_344 (zSt_ob hs 57 7 rfl) rfl dX12_image_4 ?_
    rw [i6.1.2.2.1]
    refine zJ_iconst (v := nI 3) dX12_image_7 rfl ?_
    refine zJ_icmp_lt 13 dX12_image_8 (by decide) (fun c8 => absurd c8 (nI_nlt hz (by omega))) (fun _ => ?_)
    refine zJ_iconst (v := -1) dX12_image_11 rfl ?_
    refine zJ_iret rfl dX12_image_12 ?_
    exact ⟨_, I, g, rfl, rfl, gE_rfl, fun _ _ _ => rfl, rfl, hI⟩
  simp only [if_neg hz]
  refine zJ_aload_n dX12_image_0 rfl ?_
  refine zP_getr lf_X12_90 (zSt_ob hs 0 12 rfl) rfl (zSt_rf hs 0 12 57 rfl) dX12_image_1 ?_
  refine zP_geti lf_X12_344 (zSt_ob hs 57 7 rfl) rfl dX12_image_4 ?_
  rw [i6.1.2.2.1]
  refine zJ_iconst (v := nI 3) dX12_image_7 rfl ?_
  refine zJ_icmp_lt 13 dX12_image_8 (by decide) (fun _ => ?_) (fun c8 => absurd (nI_lt (by omega) (by omega)) c8)
  refine zJ_aload_n dX12_image_13 rfl ?_
  refine zP_getr lf_X12_90 (zSt_ob hs 0 12 rfl) rfl (zSt_rf hs 0 12 57 rfl) dX12_image_14 ?_
  refine zJ_aload_n dX12_image_17 rfl ?_
  refine zP_getr lf_X12_97 (zSt_ob hs 0 12 rfl) rfl (zSt_rf hs 0 13 62 rfl) dX12_image_18 ?_
  refine zP_gcallV [.ref 62] [] lv_X12_347 (k_keepImage (d := d - 1) hl (by omega) hs i6 (by omega) i4 hB h643) (zSt_ob hs 57 7 rfl) rfl (by omega) (by decide) rfl dX12_image_21 (fun J1 g1 h1 => ?_)
  obtain ⟨hE, e, sh1⟩ := h1
  have hs3 := zSt_gE hs hE
  clear hs
  have hs := hs3
  refine zJ_aload_n dX12_image_24 rfl ?_
  refine zP_getr lf_X12_90 (zSt_ob hs 0 12 rfl) rfl (zSt_rf hs 0 12 57 rfl) dX12_image_25 ?_
  refine zP_geti lf_X12_344 (zSt_ob hs 57 7 rfl) rfl dX12_image_28 ?_
  refine zJ_iret rfl dX12_image_31 ?_
  refine ⟨_, J1, g1, rfl, rfl, hE, fun a q1 q2 => e a (by omega) (by omega) (by omega), by rw [sh1.1.2.2.1], tp_of i1 (e 1 (by decide) (by decide) (by decide)) (e 2 (by decide) (by decide) (by decide)), by rw [e 1 (by decide) (by decide) (by decide)]; exact i2, zWi_of i3 (fun a ha => e a (by omega) (by omega) (by omega)), zRow_of i4 (fun a q1 q2 => e a (by omega) (by omega) (by omega)), zBk_of i5 (fun a q1 q2 => e a (by omega) (by omega) (by omega)), sh1, by rw [e 0 (by decide) (by decide) (by decide)]; exact ⟨i7, i8, i9⟩⟩
def rstS (S : sT) : sT := (S.1, S.2.1, S.2.2.2.2.2.1.2.1 (S.2.2.2.2.2.1.1 - 1), S.2.2.2.1, (S.2.2.2.2.2.1.2.2.1 (S.2.2.2.2.2.1.1 - 1), S.2.2.2.2.2.1.2.2.2 (S.2.2.2.2.2.1.1 - 1)), (S.2.2.2.2.2.1.1 - 1, S.2.2.2.2.2.1.2), (0, S.2.2.2.2.2.2.2))
def rstQ (S : sT) (v : Int32) (J : zI) (g : zG) : Prop := if S.2.2.2.2.2.1.1 = 0 then v = -1 ∧ cI J g S else v = nI (S.2.2.2.2.2.1.1 - 1) ∧ cI J g (rstS S)
theorem okS_rst {S : sT} (h : okS S) (hz : S.2.2.2.2.2.1.1 ≠ 0) : okS (rstS S) := ⟨h.1, (h.2.2.2 _ (by omega)).1, (h.2.2.2 _ (by omega)).2, fun k hk => h.2.2.2 k (by have : k < S.2.2.2.2.2.1.1 - 1 := hk; omega)⟩
theorem k_restore (hl : l.stackTraces = false) (hd : 12 ≤ d) (hs : zSt g) {S : sT} (hI : cI I g S) : zGi l Xi mX12_restore d 0 0 [.ref 0] I g (fun v J g' => fC I J ∧ rstQ S v J g') := by
  refine zC_of hl rfl rfl rfl (Nat.le_of_ble_eq_true rfl) (zav_r (zSt_ob hs 0 12 rfl).1 zav_0) ?_
  have hI0 := hI
  obtain ⟨i1, i2, i3, i4, i5, i6, i7, i8, i9⟩ := hI0
  have hm3 := i6.1.2.2.2
  unfold rstQ
  by_cases hz : S.2.2.2.2.2.1.1 = 0
  · simp only [if_pos hz]
    refine zJ_aload_n dX12_restore_0 rfl ?_
    refine zP_getr lf_X12_90 (zSt_ob hs 0 12 rfl) rfl (zSt_rf hs 0 12 57 rfl) dX12_restore_1 ?_
    refine zP_geti lf_X12_344 (zSt_ob hs 57 7 rfl) rfl dX12_restore_4 ?_
    rw [i6.1.2.2.1, hz]
    refine zJ_if_ne 12 dX12_restore_7 (by decide) (fun c7 => absurd rfl c7) (fun _ => ?_)
    refine zJ_iconst (v := -1) dX12_restore_10 rfl ?_
    refine zJ_iret rfl dX12_restore_11 ?_
    exact ⟨_, I, g, rfl, rfl, gE_rfl, fun _ _ _ => rfl, rfl, hI⟩
  simp only [if_neg hz]
  obtain ⟨m, hm⟩ : ∃ m, S.2.2.2.2.2.1.1 = m + 1 := ⟨S.2.2.2.2.2.1.1 - 1, by omega⟩
  have i6' := i6
  rw [hm] at i6'
  refine zJ_aload_n dX12_restore_0 rfl ?_
  refine zP_getr lf_X12_90 (zSt_ob hs 0 12 rfl) rfl (zSt_rf hs 0 12 57 rfl) dX12_restore_1 ?_
  refine zP_geti lf_X12_344 (zSt_ob hs 57 7 rfl) rfl dX12_restore_4 ?_
  rw [i6.1.2.2.1]
  refine zJ_if_ne 12 dX12_restore_7 (by decide) (fun _ => ?_) (fun c7 => absurd c7 (nI_ne0 (by omega) (by omega)))
  refine zJ_aload_n dX12_restore_12 rfl ?_
  refine zP_getr lf_X12_90 (zSt_ob hs 0 12 rfl) rfl (zSt_rf hs 0 12 57 rfl) dX12_restore_13 ?_
  refine zJ_aload_n dX12_restore_16 rfl ?_
  refine zP_getr lf_X12_97 (zSt_ob hs 0 12 rfl) rfl (zSt_rf hs 0 13 62 rfl) dX12_restore_17 ?_
  refine zP_gcallV [.ref 62] [] lv_X12_350 (k_takeImage (d := d - 1) hl (by omega) hs i6') (zSt_ob hs 57 7 rfl) rfl (by omega) (by decide) rfl dX12_restore_20 (fun J1 g1 h1 => ?_)
  obtain ⟨hE, g2, g3, g4⟩ := h1
  have hs3 := zSt_gE hs hE
  clear hs
  have hs := hs3
  refine zJ_aload_n dX12_restore_23 rfl ?_
  refine zJ_iconst (v := nI 0) dX12_restore_24 rfl ?_
  refine zP_puti lf_X12_160 (zSt_ob hs 0 12 rfl) rfl dX12_restore_25 ?_
  refine zJ_aload_n dX12_restore_28 rfl ?_
  refine zP_getr lf_X12_90 (zSt_ob hs 0 12 rfl) rfl (zSt_rf hs 0 12 57 rfl) dX12_restore_29 ?_
  refine zP_geti lf_X12_344 (zSt_ob hs 57 7 rfl) rfl dX12_restore_32 ?_
  refine zJ_iret rfl dX12_restore_35 ?_
  have e : ∀ a, a ≠ 0 → a ≠ 57 → (a < 62 ∨ 67 < a) → zup J1 0 15 (nI 0) a = I a := fun a h0 h1 h2 => by rw [zup_row h0, g2 a h1 h2]
  have e0 : ∀ k, k ≠ 15 → zup J1 0 15 (nI 0) 0 k = I 0 k := fun k hk => by rw [zup_same, upd_ne hk, g2 0 (by decide) (by decide)]
  refine ⟨_, zup J1 0 15 (nI 0), g1, rfl, rfl, hE, fun a q1 q2 => e a (by omega) (by omega) (by omega), ?_, ?_⟩
  · rw [zup_row (by decide), g4.1.2.2.1, hm, Nat.add_sub_cancel]
  · unfold rstS
    rw [hm, Nat.add_sub_cancel]
    refine ⟨tp_of i1 (e 1 (by decide) (by decide) (by decide)) (e 2 (by decide) (by decide) (by decide)), by rw [e 1 (by decide) (by decide) (by decide)]; exact i2, zWi_of i3 (fun a ha => e a (by omega) (by omega) (by omega)), zRow_zup g3 (by omega), zBk_of i5 (fun a q1 q2 => e a (by omega) (by omega) (by omega)), shI_of g4 (fun q hq => zup_row (by omega)), by rw [zup_same, upd_at], by rw [e0 16 (by decide)]; exact i8, by rw [e0 17 (by decide)]; exact i9⟩
end ZX12g
