/-! ===== NegotiatedWires: rounds ahead, trees, crowds ===== -/
section ZX12b
variable {l : Launch} {Xi : zXi} {d : Nat} {I : zI} {g : zG}
noncomputable def goA (b : zWo) (R : rwT) : Nat → rwT
  | 0 => R
  | k + 1 => if sDone b (goA b R k) then goA b R k else rndM b (goA b R k)
noncomputable def setG (b : zWo) : Nat → Nat → rwT → Int32
  | 0, _, _ => -1
  | m + 1, k, R => if sDone b R then nI k else setG b m (k + 1) (rndM b R)
theorem goA_done {b : zWo} {R : rwT} {k : Nat} (h : sDone b (goA b R k) = true) : ∀ j, goA b R (k + j) = goA b R k
  | 0 => rfl
  | j + 1 => by
    have ih := goA_done h j
    show (if sDone b (goA b R (k + j)) then goA b R (k + j) else rndM b (goA b R (k + j))) = _
    rw [ih, if_pos h]
theorem goA_ok {b : zWo} {R : rwT} (hb : bdOk b) (hg : gnOk b) (h : okR b R) : ∀ k, okR b (goA b R k)
  | 0 => h
  | k + 1 => by
    have ih := goA_ok hb hg h k
    simp only [goA]
    split
    · exact ih
    · exact okR_rnd hb hg ih
theorem k_goAhead (hl : l.stackTraces = false) (hd : 10 ≤ d) (hs : zSt g) {S : sT} (hI : cI I g S) (hok : okS S) {n : Nat} (hn : n ≤ 40) : zEv l Xi mX12_goAhead d [.ref 0, .int (nI n)] I g (fun J => fQ I J ∧ zRow J 68 (goA S.2.1 S.2.2.1 n)) := by
  refine zC_of hl rfl rfl rfl (Nat.le_of_ble_eq_true rfl) (zav_r (zSt_ob hs 0 12 rfl).1 (zav_i zav_0)) ?_
  obtain ⟨hW, hR, hokR, hwk, hwI, hbk⟩ := cI_ctx hI hok
  have hW2 : ∀ {J : zI}, fQ I J → zWi J S.2.1 := fun h => (cI_fQ hI h).2.2.1
  have loop : ∀ m i, i + m = n → ∀ (J : zI), (fQ I J ∧ zRow J 68 (goA S.2.1 S.2.2.1 i)) → zJ l Xi mX12_goAhead d 0 0 13 [some (.ref 0), some (.int (nI n)), some (.int (nI i))] [] (J, g) (fun r' h' => r' = .inl none ∧ ∃ I', h' = (I', g) ∧ fQ I I' ∧ zRow I' 68 (goA S.2.1 S.2.2.1 n)) := by
    intro m
    induction m with
    | zero =>
      intro i hp J hI
      obtain rfl : i = n := by omega
      refine zJ_iload_n dX12_goAhead_13 rfl ?_
      refine zJ_iload_n dX12_goAhead_14 rfl ?_
      refine zJ_icmp_ge 49 dX12_goAhead_15 (by decide) (fun _ => ?_) (fun c15 => absurd (nI_le (by omega) (by omega)) c15)
      refine zJ_vret rfl dX12_goAhead_49 ?_
      exact ⟨rfl, J, rfl, hI⟩
    | succ m ih =>
      intro i hp J hI
      have hWJ := hW2 hI.1
      refine zJ_iload_n dX12_goAhead_13 rfl ?_
      refine zJ_iload_n dX12_goAhead_14 rfl ?_
      refine zJ_icmp_ge 49 dX12_goAhead_15 (by decide) (fun c15 => absurd c15 (nI_ge (by omega) (by omega))) (fun _ => ?_)
      refine zJ_aload_n dX12_goAhead_18 rfl ?_
      refine zP_getr lf_X12_58 (zSt_ob hs 0 12 rfl) rfl (zSt_rf hs 0 8 41 rfl) dX12_goAhead_19 ?_
      refine zJ_aload_n dX12_goAhead_22 rfl ?_
      refine zP_getr lf_X12_101 (zSt_ob hs 0 12 rfl) rfl (zSt_rf hs 0 14 68 rfl) dX12_goAhead_23 ?_
      refine zP_callVi [_] _ lv_X12_195 (k_X9_allIsDone (d := d - 1) hl (by omega) hs hWJ.2.1 (zSt_scratch hs)) (zSt_ob hs 41 9 rfl) rfl (by omega) (Nat.le_of_ble_eq_true rfl) rfl dX12_goAhead_26 ?_
      rw [q_done hWJ hI.2]
      refine zJ_if_ne 49 dX12_goAhead_29 (by decide) (fun c29 => ?_) (fun c29 => ?_)
      · replace c29 := zb1.mp c29
        refine zJ_vret rfl dX12_goAhead_49 ?_
        refine ⟨rfl, J, rfl, hI.1, ?_⟩
        have h9 := goA_done c29 (n - i)
        rw [show i + (n - i) = n by omega] at h9
        rw [h9]
        exact hI.2
      · replace c29 := zb0.mp c29
        refine zJ_aload_n dX12_goAhead_32 rfl ?_
        refine zP_getr lf_X12_67 (zSt_ob hs 0 12 rfl) rfl (zSt_rf hs 0 9 43 rfl) dX12_goAhead_33 ?_
        refine zJ_aload_n dX12_goAhead_36 rfl ?_
        refine zP_getr lf_X12_101 (zSt_ob hs 0 12 rfl) rfl (zSt_rf hs 0 14 68 rfl) dX12_goAhead_37 ?_
        refine zP_ecallVv [_] _ lv_X12_298 (k_X6_goRound (d := d - 1) hl (by omega) hs (zSt_scratch hs) (by decide) hWJ hI.2 (goA_ok hW.1 hok.1 hokR i)) (zSt_ob hs 43 6 rfl) rfl (by omega) (Nat.le_of_ble_eq_true rfl) rfl dX12_goAhead_40 (fun K hK => ?_)
        refine zJ_iinc1 dX12_goAhead_43 rfl (by decide) ?_
        refine zJ_goto 13 dX12_goAhead_46 (by decide) ?_
        refine ih (i + 1) (by omega) K ⟨fQ_trans hI.1 (fQ_fX hK.1), ?_⟩
        simp only [goA]
        rw [if_neg (by rw [c29]; decide)]
        exact hK.2
  refine zJ_aload_n dX12_goAhead_0 rfl ?_
  refine zP_getr lf_X12_101 (zSt_ob hs 0 12 rfl) rfl (zSt_rf hs 0 14 68 rfl) dX12_goAhead_1 ?_
  refine zJ_aload_n dX12_goAhead_4 rfl ?_
  refine zP_getr lf_X12_97 (zSt_ob hs 0 12 rfl) rfl (zSt_rf hs 0 13 62 rfl) dX12_goAhead_5 ?_
  refine zP_callVv [_] _ lv_X12_296 (k_X8_copyFrom (d := d - 1) hl (by omega) (zSt_scratch hs) (zSt_state hs)) (zSt_ob hs 68 8 rfl) rfl (by omega) (Nat.le_of_ble_eq_true rfl) rfl dX12_goAhead_8 ?_
  refine zJ_iconst (v := nI 0) dX12_goAhead_11 rfl ?_
  refine zJ_istore_m 2 dX12_goAhead_12 rfl (Nat.le_of_ble_eq_true rfl) (by decide) ?_
  exact loop n 0 (by omega) _ ⟨fQ_fZ (fZ_copyS fZ_rfl), copyS_row (by decide) hR⟩
theorem k_settled (hl : l.stackTraces = false) (hd : 12 ≤ d) (hs : zSt g) {S : sT} (hI : cI I g S) (hok : okS S) : zEi l Xi mX12_settled d [.ref 0] I g (fun v J => v = setG S.2.1 41 0 S.2.2.1 ∧ cI J g S ∧ fC I J) := by
  refine zC_of hl rfl rfl rfl (Nat.le_of_ble_eq_true rfl) (zav_r (zSt_ob hs 0 12 rfl).1 zav_0) ?_
  obtain ⟨hW, hR, hokR, hwk, hwI, hbk⟩ := cI_ctx hI hok
  have hW2 : ∀ {J : zI}, fQ I J → zWi J S.2.1 := fun h => (cI_fQ hI h).2.2.1
  have loop : ∀ m i (J : zI) (R : rwT), i + m = 41 → fQ I J → zRow J 68 R → okR S.2.1 R → setG S.2.1 m i R = setG S.2.1 41 0 S.2.2.1 → zJ l Xi mX12_settled d 0 0 13 [some (.ref 0), some (.int (nI i))] [] (J, g) (fun r' h' => ∃ x I', r' = .inl (some (.int x)) ∧ h' = (I', g) ∧ x = setG S.2.1 41 0 S.2.2.1 ∧ cI I' g S ∧ fC I I') := by
    intro m
    induction m with
    | zero =>
      intro i J R hi hf hr ho he
      refine zJ_iload_n dX12_settled_13 rfl ?_
      refine zJ_bipush (v := nI 40) dX12_settled_14 rfl ?_
      refine zJ_icmp_gt 52 dX12_settled_16 (by decide) (fun _ => ?_) (fun c16 => absurd (nI_lt (by omega) (by omega)) c16)
      refine zJ_iconst (v := -1) dX12_settled_52 rfl ?_
      refine zJ_iret rfl dX12_settled_53 ?_
      exact ⟨_, J, rfl, rfl, he, cQ hI hf⟩
    | succ m ih =>
      intro i J R hi hf hr ho he
      have hWJ := hW2 hf
      simp only [setG] at he
      refine zJ_iload_n dX12_settled_13 rfl ?_
      refine zJ_bipush (v := nI 40) dX12_settled_14 rfl ?_
      refine zJ_icmp_gt 52 dX12_settled_16 (by decide) (fun c16 => absurd c16 (nI_nlt (by omega) (by omega))) (fun _ => ?_)
      refine zJ_aload_n dX12_settled_19 rfl ?_
      refine zP_getr lf_X12_58 (zSt_ob hs 0 12 rfl) rfl (zSt_rf hs 0 8 41 rfl) dX12_settled_20 ?_
      refine zJ_aload_n dX12_settled_23 rfl ?_
      refine zP_getr lf_X12_101 (zSt_ob hs 0 12 rfl) rfl (zSt_rf hs 0 14 68 rfl) dX12_settled_24 ?_
      refine zP_callVi [_] _ lv_X12_195 (k_X9_allIsDone (d := d - 1) hl (by omega) hs hWJ.2.1 (zSt_scratch hs)) (zSt_ob hs 41 9 rfl) rfl (by omega) (Nat.le_of_ble_eq_true rfl) rfl dX12_settled_27 ?_
      rw [q_done hWJ hr]
      refine zJ_if_eq 35 dX12_settled_30 (by decide) (fun c30 => ?_) (fun c30 => ?_)
      · replace c30 := zb0.mp c30
        refine zJ_aload_n dX12_settled_35 rfl ?_
        refine zP_getr lf_X12_67 (zSt_ob hs 0 12 rfl) rfl (zSt_rf hs 0 9 43 rfl) dX12_settled_36 ?_
        refine zJ_aload_n dX12_settled_39 rfl ?_
        refine zP_getr lf_X12_101 (zSt_ob hs 0 12 rfl) rfl (zSt_rf hs 0 14 68 rfl) dX12_settled_40 ?_
        refine zP_ecallVv [_] _ lv_X12_298 (k_X6_goRound (d := d - 1) hl (by omega) hs (zSt_scratch hs) (by decide) hWJ hr ho) (zSt_ob hs 43 6 rfl) rfl (by omega) (Nat.le_of_ble_eq_true rfl) rfl dX12_settled_43 (fun K hK => ?_)
        refine zJ_iinc1 dX12_settled_46 rfl (by decide) ?_
        refine zJ_goto 13 dX12_settled_49 (by decide) ?_
        rw [if_neg (by rw [c30]; decide)] at he
        exact ih (i + 1) K _ (by omega) (fQ_trans hf (fQ_fX hK.1)) hK.2 (okR_rnd hW.1 hok.1 ho) he
      · replace c30 := zb1.mp c30
        refine zJ_iload_n dX12_settled_33 rfl ?_
        refine zJ_iret rfl dX12_settled_34 ?_
        rw [if_pos c30] at he
        exact ⟨_, J, rfl, rfl, he, cQ hI hf⟩
  refine zJ_aload_n dX12_settled_0 rfl ?_
  refine zP_getr lf_X12_101 (zSt_ob hs 0 12 rfl) rfl (zSt_rf hs 0 14 68 rfl) dX12_settled_1 ?_
  refine zJ_aload_n dX12_settled_4 rfl ?_
  refine zP_getr lf_X12_97 (zSt_ob hs 0 12 rfl) rfl (zSt_rf hs 0 13 62 rfl) dX12_settled_5 ?_
  refine zP_callVv [_] _ lv_X12_296 (k_X8_copyFrom (d := d - 1) hl (by omega) (zSt_scratch hs) (zSt_state hs)) (zSt_ob hs 68 8 rfl) rfl (by omega) (Nat.le_of_ble_eq_true rfl) rfl dX12_settled_8 ?_
  refine zJ_iconst (v := nI 0) dX12_settled_11 rfl ?_
  refine zJ_istore_m 1 dX12_settled_12 rfl (Nat.le_of_ble_eq_true rfl) (by decide) ?_
  exact loop 41 0 _ _ rfl (fQ_fZ (fZ_copyS fZ_rfl)) (copyS_row (by decide) hR) hokR rfl
theorem or_z {x : Int32} : x = x ||| (if False then (1 : Int32) else 0) := by simp
theorem bitF_no {f : Nat → Bool} {k : Nat} (h : f k = false) : bitF f k = bitF f (k + 1) := by rw [bitF_succ, h]; simp
theorem bitF_yes {f : Nat → Bool} {k : Nat} (h : f k = true) : bitF f k ||| nI 1 <<< (nI k &&& 31) = bitF f (k + 1) := by rw [bitF_succ, h]; rfl
theorem k_jam (hl : l.stackTraces = false) (hd : 12 ≤ d) (hs : zSt g) {S : sT} (hI : cI I g S) (hok : okS S) {y : Nat} (hy : y < bR S.2.1) : zEi l Xi mX12_jam d [.ref 0, .int (nI y)] I g (fun v J => v = bitF (fun x => ovQ S.2.1 (goA S.2.1 S.2.2.1 40) (y * 8 + x)) (bC S.2.1) ∧ cI J g S ∧ fC I J) := by
  refine zC_of hl rfl rfl rfl (Nat.le_of_ble_eq_true rfl) (zav_r (zSt_ob hs 0 12 rfl).1 (zav_i zav_0)) ?_
  obtain ⟨hW, hR, hokR, hwk, hwI, hbk⟩ := cI_ctx hI hok
  have hC8 := hW.1.2.1
  have hR8 := hW.1.2.2.2.1
  refine zJ_aload_n dX12_jam_0 rfl ?_
  refine zJ_iload_n dX12_jam_1 rfl ?_
  refine zP_callVv [_] _ lv_X12_301 (k_needRow (d := d - 1) hl (by omega) hs (k_rww hI hy)) (zSt_ob hs 0 12 rfl) rfl (by omega) (Nat.le_of_ble_eq_true rfl) rfl dX12_jam_2 ?_
  refine zJ_aload_n dX12_jam_5 rfl ?_
  refine zJ_bipush (v := nI 40) dX12_jam_6 rfl ?_
  refine zP_ecallVv [_] _ lv_X12_304 (k_goAhead (d := d - 1) hl (by omega) hs hI hok (by decide)) (zSt_ob hs 0 12 rfl) rfl (by omega) (Nat.le_of_ble_eq_true rfl) rfl dX12_jam_8 (fun J hJ => ?_)
  refine zJ_iconst (v := nI 0) dX12_jam_11 rfl ?_
  refine zJ_istore_m 2 dX12_jam_12 rfl (Nat.le_of_ble_eq_true rfl) (by decide) ?_
  refine zJ_iconst (v := nI 0) dX12_jam_13 rfl ?_
  refine zJ_istore_m 3 dX12_jam_14 rfl (Nat.le_of_ble_eq_true rfl) (by decide) ?_
  obtain ⟨hf, hr⟩ := hJ
  have hWJ := (cI_fQ hI hf).2.2.1
  obtain ⟨Q, hQ⟩ : ∃ Q, goA S.2.1 S.2.2.1 40 = Q := ⟨_, rfl⟩
  rw [hQ] at hr ⊢
  obtain ⟨f, hff⟩ : ∃ f : Nat → Bool, (fun x => ovQ S.2.1 Q (y * 8 + x)) = f := ⟨_, rfl⟩
  rw [hff]
  have hfx : ∀ x, f x = ovQ S.2.1 Q (y * 8 + x) := fun x => by rw [← hff]
  have loop : ∀ m x, x + m = bC S.2.1 → zJ l Xi mX12_jam d 0 0 15 [some (.ref 0), some (.int (nI y)), some (.int (bitF f x)), some (.int (nI x))] [] (J, g) (fun r' h' => ∃ x I', r' = .inl (some (.int x)) ∧ h' = (I', g) ∧ x = bitF f (bC S.2.1) ∧ cI I' g S ∧ fC I I') := by
    intro m
    induction m with
    | zero =>
      intro x hp
      obtain rfl : x = bC S.2.1 := by omega
      refine zJ_iload_n dX12_jam_15 rfl ?_
      refine zJ_aload_n dX12_jam_16 rfl ?_
      refine zP_getr lf_X12_19 (zSt_ob hs 0 12 rfl) rfl (zSt_rf hs 0 1 3 rfl) dX12_jam_17 ?_
      refine zP_geti lf_X12_179 (zSt_ob hs 3 0 rfl) rfl dX12_jam_20 ?_
      refine zJ_icmp_ge 58 dX12_jam_23 (by decide) (fun _ => ?_) (fun c23 => absurd (by rw [hWJ.2.1.1]; exact nI_le (by omega) (by omega)) c23)
      refine zJ_iload_n dX12_jam_58 rfl ?_
      refine zJ_iret rfl dX12_jam_59 ?_
      exact ⟨_, J, rfl, rfl, rfl, cQ hI hf⟩
    | succ m ih =>
      intro x hp
      refine zJ_iload_n dX12_jam_15 rfl ?_
      refine zJ_aload_n dX12_jam_16 rfl ?_
      refine zP_getr lf_X12_19 (zSt_ob hs 0 12 rfl) rfl (zSt_rf hs 0 1 3 rfl) dX12_jam_17 ?_
      refine zP_geti lf_X12_179 (zSt_ob hs 3 0 rfl) rfl dX12_jam_20 ?_
      refine zJ_icmp_ge 58 dX12_jam_23 (by decide) (fun c23 => absurd c23 (by rw [hWJ.2.1.1]; exact nI_ge (by omega) (by omega))) (fun _ => ?_)
      refine zJ_aload_n dX12_jam_26 rfl ?_
      refine zP_getr lf_X12_58 (zSt_ob hs 0 12 rfl) rfl (zSt_rf hs 0 8 41 rfl) dX12_jam_27 ?_
      refine zJ_aload_n dX12_jam_30 rfl ?_
      refine zP_getr lf_X12_101 (zSt_ob hs 0 12 rfl) rfl (zSt_rf hs 0 14 68 rfl) dX12_jam_31 ?_
      refine zJ_iload_n dX12_jam_34 rfl ?_
      refine zJ_bipush (v := nI 8) dX12_jam_35 rfl ?_
      refine zJ_imul dX12_jam_37 ?_
      refine zJ_iload_n dX12_jam_38 rfl ?_
      refine zJ_iadd dX12_jam_39 ?_
      rw [pk_mul, nI_add]
      refine zP_callVi [_, _] _ lv_X12_269 (k_X9_overAt (d := d - 1) hl (by omega) hs (zSt_scratch hs) (by omega)) (zSt_ob hs 41 9 rfl) rfl (by omega) (Nat.le_of_ble_eq_true rfl) rfl dX12_jam_40 ?_
      rw [ovr_eq hWJ hr (by omega)]
      refine zJ_if_le 52 dX12_jam_43 (by decide) (fun c43 => ?_) (fun c43 => ?_)
      · skip
        refine zJ_iinc1 dX12_jam_52 rfl (by decide) ?_
        refine zJ_goto 15 dX12_jam_55 (by decide) ?_
        have e : f x = false := (hfx x).trans <| decide_eq_false (fun z => absurd c43 (nI_nle z (Nat.lt_of_le_of_lt (Nat.sub_le _ _) (Nat.lt_of_le_of_lt usn_le (by decide)))))
        exact zJ_back (zle_r (zle_r (zle_i (bitF_no e).symm (zle_r zle_0)))) rfl (ih (x + 1) (by omega))
      · skip
        refine zJ_iload_n dX12_jam_46 rfl ?_
        refine zJ_iconst (v := nI 1) dX12_jam_47 rfl ?_
        refine zJ_iload_n dX12_jam_48 rfl ?_
        refine zJ_ishl dX12_jam_49 ?_
        refine zJ_ior dX12_jam_50 ?_
        refine zJ_istore_m 2 dX12_jam_51 rfl (Nat.le_of_ble_eq_true rfl) (by decide) ?_
        refine zJ_iinc1 dX12_jam_52 rfl (by decide) ?_
        refine zJ_goto 15 dX12_jam_55 (by decide) ?_
        have e : f x = true := (hfx x).trans <| decide_eq_true (Nat.pos_of_ne_zero (fun z => c43 (by rw [z]; decide)))
        exact zJ_back (zle_r (zle_r (zle_i (bitF_yes e).symm (zle_r zle_0)))) rfl (ih (x + 1) (by omega))
  exact loop (bC S.2.1) 0 (by omega)
def ahdV (b : zWo) (R : rwT) (k : Nat) : Int32 := if k = 0 then sOver b R else if k = 1 then sJoin b R else if k = 2 then sUses R else sHis R
theorem k_ahead (hl : l.stackTraces = false) (hd : 12 ≤ d) (hs : zSt g) {S : sT} (hI : cI I g S) (hok : okS S) {n k : Nat} (hn : n ≤ 40) (hk : k ≤ 3) : zEi l Xi mX12_ahead d [.ref 0, .int (nI n), .int (nI k)] I g (fun v J => v = ahdV S.2.1 (goA S.2.1 S.2.2.1 n) k ∧ cI J g S ∧ fC I J) := by
  refine zC_of hl rfl rfl rfl (Nat.le_of_ble_eq_true rfl) (zav_r (zSt_ob hs 0 12 rfl).1 (zav_i (zav_i zav_0))) ?_
  refine zJ_aload_n dX12_ahead_0 rfl ?_
  refine zJ_iload_n dX12_ahead_1 rfl ?_
  refine zJ_iconst (v := nI 0) dX12_ahead_2 rfl ?_
  refine zJ_bipush (v := nI 40) dX12_ahead_3 rfl ?_
  refine zP_callVv [_, _, _] _ lv_X12_276 (k_needRange (d := d - 1) hl (by omega) hs (k_what hn (by omega))) (zSt_ob hs 0 12 rfl) rfl (by omega) (Nat.le_of_ble_eq_true rfl) rfl dX12_ahead_5 ?_
  refine zJ_aload_n dX12_ahead_8 rfl ?_
  refine zJ_iload_n dX12_ahead_9 rfl ?_
  refine zJ_iconst (v := nI 3) dX12_ahead_10 rfl ?_
  refine zP_callVv [_, _] _ lv_X12_176 (k_needWhat (d := d - 1) hl (by omega) hs (k_what hk (by omega))) (zSt_ob hs 0 12 rfl) rfl (by omega) (Nat.le_of_ble_eq_true rfl) rfl dX12_ahead_11 ?_
  refine zJ_aload_n dX12_ahead_14 rfl ?_
  refine zJ_iload_n dX12_ahead_15 rfl ?_
  refine zP_ecallVv [_] _ lv_X12_304 (k_goAhead (d := d - 1) hl (by omega) hs hI hok hn) (zSt_ob hs 0 12 rfl) rfl (by omega) (Nat.le_of_ble_eq_true rfl) rfl dX12_ahead_16 (fun J hJ => ?_)
  obtain ⟨hf, hr⟩ := hJ
  have hWJ := (cI_fQ hI hf).2.2.1
  have hkk : k = 0 ∨ k = 1 ∨ k = 2 ∨ k = 3 := by omega
  rcases hkk with rfl | rfl | rfl | rfl
  · skip
    refine zJ_iload_n dX12_ahead_19 rfl ?_
    refine zJ_tabIn 48 dX12_ahead_20 (by decide) (by decide) rfl (by decide) ?_
    refine zJ_aload_n dX12_ahead_48 rfl ?_
    refine zP_getr lf_X12_58 (zSt_ob hs 0 12 rfl) rfl (zSt_rf hs 0 8 41 rfl) dX12_ahead_49 ?_
    refine zJ_aload_n dX12_ahead_52 rfl ?_
    refine zP_getr lf_X12_101 (zSt_ob hs 0 12 rfl) rfl (zSt_rf hs 0 14 68 rfl) dX12_ahead_53 ?_
    refine zP_callVi [_] _ lv_X12_192 (k_X9_overPlaces (d := d - 1) hl (by omega) hs (zSt_scratch hs)) (zSt_ob hs 41 9 rfl) rfl (by omega) (Nat.le_of_ble_eq_true rfl) rfl dX12_ahead_56 ?_
    refine zJ_iret rfl dX12_ahead_59 ?_
    exact ⟨_, J, rfl, rfl, q_over hWJ hr, cQ hI hf⟩
  · skip
    refine zJ_iload_n dX12_ahead_19 rfl ?_
    refine zJ_tabIn 60 dX12_ahead_20 (by decide) (by decide) rfl (by decide) ?_
    refine zJ_aload_n dX12_ahead_60 rfl ?_
    refine zP_getr lf_X12_58 (zSt_ob hs 0 12 rfl) rfl (zSt_rf hs 0 8 41 rfl) dX12_ahead_61 ?_
    refine zJ_aload_n dX12_ahead_64 rfl ?_
    refine zP_getr lf_X12_101 (zSt_ob hs 0 12 rfl) rfl (zSt_rf hs 0 14 68 rfl) dX12_ahead_65 ?_
    refine zP_callVi [_] _ lv_X12_188 (k_X9_joinedBits (d := d - 1) hl (by omega) hs hWJ.2.1 (zSt_scratch hs)) (zSt_ob hs 41 9 rfl) rfl (by omega) (Nat.le_of_ble_eq_true rfl) rfl dX12_ahead_68 ?_
    refine zJ_iret rfl dX12_ahead_71 ?_
    exact ⟨_, J, rfl, rfl, q_join hWJ hr, cQ hI hf⟩
  · skip
    refine zJ_iload_n dX12_ahead_19 rfl ?_
    refine zJ_tabIn 72 dX12_ahead_20 (by decide) (by decide) rfl (by decide) ?_
    refine zJ_aload_n dX12_ahead_72 rfl ?_
    refine zP_getr lf_X12_58 (zSt_ob hs 0 12 rfl) rfl (zSt_rf hs 0 8 41 rfl) dX12_ahead_73 ?_
    refine zJ_aload_n dX12_ahead_76 rfl ?_
    refine zP_getr lf_X12_101 (zSt_ob hs 0 12 rfl) rfl (zSt_rf hs 0 14 68 rfl) dX12_ahead_77 ?_
    refine zP_callVi [_] _ lv_X12_202 (k_X9_usesTogether (d := d - 1) hl (by omega) hs (zSt_scratch hs)) (zSt_ob hs 41 9 rfl) rfl (by omega) (Nat.le_of_ble_eq_true rfl) rfl dX12_ahead_80 ?_
    refine zJ_iret rfl dX12_ahead_83 ?_
    exact ⟨_, J, rfl, rfl, q_uses hr, cQ hI hf⟩
  · skip
    refine zJ_iload_n dX12_ahead_19 rfl ?_
    refine zJ_tabOut 84 dX12_ahead_20 (Or.inr (by decide)) (by decide) ?_
    refine zJ_aload_n dX12_ahead_84 rfl ?_
    refine zP_getr lf_X12_58 (zSt_ob hs 0 12 rfl) rfl (zSt_rf hs 0 8 41 rfl) dX12_ahead_85 ?_
    refine zJ_aload_n dX12_ahead_88 rfl ?_
    refine zP_getr lf_X12_101 (zSt_ob hs 0 12 rfl) rfl (zSt_rf hs 0 14 68 rfl) dX12_ahead_89 ?_
    refine zP_callVi [_] _ lv_X12_307 (k_X9_historiesTogether (d := d - 1) hl (by omega) hs (zSt_scratch hs)) (zSt_ob hs 41 9 rfl) rfl (by omega) (Nat.le_of_ble_eq_true rfl) rfl dX12_ahead_92 ?_
    refine zJ_iret rfl dX12_ahead_95 ?_
    exact ⟨_, J, rfl, rfl, q_his hr, cQ hI hf⟩
theorem k_tree (hl : l.stackTraces = false) (hd : 12 ≤ d) (hs : zSt g) {S : sT} (hI : cI I g S) (hok : okS S) {n y : Nat} (hn : n < bN S.2.1) (hy : y < bR S.2.1) : zEi l Xi mX12_tree d [.ref 0, .int (nI n), .int (nI y)] I g (fun v J => v = bitF (fun x => tin S.2.2.1 n (y * 8 + x)) (bC S.2.1) ∧ cI J g S ∧ fC I J) := by
  refine zC_of hl rfl rfl rfl (Nat.le_of_ble_eq_true rfl) (zav_r (zSt_ob hs 0 12 rfl).1 (zav_i (zav_i zav_0))) ?_
  obtain ⟨hW, hR, hokR, hwk, hwI, hbk⟩ := cI_ctx hI hok
  have hC8 := hW.1.2.1
  have hR8 := hW.1.2.2.2.1
  have hN6 := hW.1.2.2.2.2.1
  obtain ⟨f, hff⟩ : ∃ f : Nat → Bool, (fun x => tin S.2.2.1 n (y * 8 + x)) = f := ⟨_, rfl⟩
  rw [hff]
  have hfx : ∀ x, f x = tin S.2.2.1 n (y * 8 + x) := fun x => by rw [← hff]
  have loop : ∀ m x, x + m = bC S.2.1 → zJ l Xi mX12_tree d 0 0 15 [some (.ref 0), some (.int (nI n)), some (.int (nI y)), some (.int (bitF f x)), some (.int (nI x))] [] (I, g) (fun r' h' => ∃ x I', r' = .inl (some (.int x)) ∧ h' = (I', g) ∧ x = bitF f (bC S.2.1) ∧ cI I' g S ∧ fC I I') := by
    intro m
    induction m with
    | zero =>
      intro x hp
      obtain rfl : x = bC S.2.1 := by omega
      refine zJ_iload dX12_tree_15 rfl ?_
      refine zJ_aload_n dX12_tree_17 rfl ?_
      refine zP_getr lf_X12_19 (zSt_ob hs 0 12 rfl) rfl (zSt_rf hs 0 1 3 rfl) dX12_tree_18 ?_
      refine zP_geti lf_X12_179 (zSt_ob hs 3 0 rfl) rfl dX12_tree_21 ?_
      refine zJ_icmp_ge 58 dX12_tree_24 (by decide) (fun _ => ?_) (fun c24 => absurd (by rw [hW.2.1.1]; exact nI_le (by omega) (by omega)) c24)
      refine zJ_iload_n dX12_tree_58 rfl ?_
      refine zJ_iret rfl dX12_tree_59 ?_
      exact ⟨_, I, rfl, rfl, rfl, cQ hI fQ_rfl⟩
    | succ m ih =>
      intro x hp
      refine zJ_iload dX12_tree_15 rfl ?_
      refine zJ_aload_n dX12_tree_17 rfl ?_
      refine zP_getr lf_X12_19 (zSt_ob hs 0 12 rfl) rfl (zSt_rf hs 0 1 3 rfl) dX12_tree_18 ?_
      refine zP_geti lf_X12_179 (zSt_ob hs 3 0 rfl) rfl dX12_tree_21 ?_
      refine zJ_icmp_ge 58 dX12_tree_24 (by decide) (fun c24 => absurd c24 (by rw [hW.2.1.1]; exact nI_ge (by omega) (by omega))) (fun _ => ?_)
      refine zJ_aload_n dX12_tree_27 rfl ?_
      refine zP_getr lf_X12_97 (zSt_ob hs 0 12 rfl) rfl (zSt_rf hs 0 13 62 rfl) dX12_tree_28 ?_
      refine zJ_iload_n dX12_tree_31 rfl ?_
      refine zJ_iload_n dX12_tree_32 rfl ?_
      refine zJ_bipush (v := nI 8) dX12_tree_33 rfl ?_
      refine zJ_imul dX12_tree_35 ?_
      refine zJ_iload dX12_tree_36 rfl ?_
      refine zJ_iadd dX12_tree_38 ?_
      rw [pk_mul, nI_add]
      refine zP_callVi [_, _] _ lv_X12_313 (k_has (d := d - 1) hl (by omega) (zSt_state hs) (by omega) (by omega)) (zSt_ob hs 62 8 rfl) rfl (by omega) (Nat.le_of_ble_eq_true rfl) rfl dX12_tree_39 ?_
      rw [zRow_has hR (by omega) (by omega)]
      refine zJ_if_eq 52 dX12_tree_42 (by decide) (fun c42 => ?_) (fun c42 => ?_)
      · replace c42 := zb0.mp c42
        refine zJ_iinc1 dX12_tree_52 rfl (by decide) ?_
        refine zJ_goto 15 dX12_tree_55 (by decide) ?_
        exact zJ_back (zle_r (zle_r (zle_r (zle_i (bitF_no ((hfx x).trans c42)).symm (zle_r zle_0))))) rfl (ih (x + 1) (by omega))
      · replace c42 := zb1.mp c42
        refine zJ_iload_n dX12_tree_45 rfl ?_
        refine zJ_iconst (v := nI 1) dX12_tree_46 rfl ?_
        refine zJ_iload dX12_tree_47 rfl ?_
        refine zJ_ishl dX12_tree_49 ?_
        refine zJ_ior dX12_tree_50 ?_
        refine zJ_istore_m 3 dX12_tree_51 rfl (Nat.le_of_ble_eq_true rfl) (by decide) ?_
        refine zJ_iinc1 dX12_tree_52 rfl (by decide) ?_
        refine zJ_goto 15 dX12_tree_55 (by decide) ?_
        exact zJ_back (zle_r (zle_r (zle_r (zle_i (bitF_yes ((hfx x).trans c42)).symm (zle_r zle_0))))) rfl (ih (x + 1) (by omega))
  refine zJ_aload_n dX12_tree_0 rfl ?_
  refine zJ_iload_n dX12_tree_1 rfl ?_
  refine zP_callVv [_] _ lv_X12_211 (k_needNet (d := d - 1) hl (by omega) hs (k_ntt hI hn)) (zSt_ob hs 0 12 rfl) rfl (by omega) (Nat.le_of_ble_eq_true rfl) rfl dX12_tree_2 ?_
  refine zJ_aload_n dX12_tree_5 rfl ?_
  refine zJ_iload_n dX12_tree_6 rfl ?_
  refine zP_callVv [_] _ lv_X12_301 (k_needRow (d := d - 1) hl (by omega) hs (k_rww hI hy)) (zSt_ob hs 0 12 rfl) rfl (by omega) (Nat.le_of_ble_eq_true rfl) rfl dX12_tree_7 ?_
  refine zJ_iconst (v := nI 0) dX12_tree_10 rfl ?_
  refine zJ_istore_m 3 dX12_tree_11 rfl (Nat.le_of_ble_eq_true rfl) (by decide) ?_
  refine zJ_iconst (v := nI 0) dX12_tree_12 rfl ?_
  refine zJ_istore dX12_tree_13 (Nat.le_of_ble_eq_true rfl) (by decide) ?_
  exact loop (bC S.2.1) 0 (by omega)
theorem cntF_no {f : Nat → Bool} {k : Nat} (h : f k = false) : cntF f k = cntF f (k + 1) := by rw [cntF_succ, h]; simp
theorem cntF_yes {f : Nat → Bool} {k : Nat} (h : f k = true) : cntF f k + 1 = cntF f (k + 1) := by rw [cntF_succ, h]; rfl
theorem k_meet (hl : l.stackTraces = false) (hd : 12 ≤ d) (hs : zSt g) {S : sT} (hI : cI I g S) (hok : okS S) {n m : Nat} (hn : n < bN S.2.1) (hm : m < bN S.2.1) : zEi l Xi mX12_meet d [.ref 0, .int (nI n), .int (nI m)] I g (fun v J => v = cntF (fun p => tin S.2.2.1 n p && tin S.2.2.1 m p) 64 ∧ cI J g S ∧ fC I J) := by
  refine zC_of hl rfl rfl rfl (Nat.le_of_ble_eq_true rfl) (zav_r (zSt_ob hs 0 12 rfl).1 (zav_i (zav_i zav_0))) ?_
  obtain ⟨hW, hR, hokR, hwk, hwI, hbk⟩ := cI_ctx hI hok
  have hN6 := hW.1.2.2.2.2.1
  obtain ⟨f, hff⟩ : ∃ f : Nat → Bool, (fun p => tin S.2.2.1 n p && tin S.2.2.1 m p) = f := ⟨_, rfl⟩
  rw [hff]
  have hfx : ∀ x, f x = (tin S.2.2.1 n x && tin S.2.2.1 m x) := fun x => by rw [← hff]
  have loop : ∀ k p, p + k = 64 → zJ l Xi mX12_meet d 0 0 15 [some (.ref 0), some (.int (nI n)), some (.int (nI m)), some (.int (nI (cB f p))), some (.int (nI p))] [] (I, g) (fun r' h' => ∃ x I', r' = .inl (some (.int x)) ∧ h' = (I', g) ∧ x = cntF f 64 ∧ cI I' g S ∧ fC I I') := by
    intro k
    induction k with
    | zero =>
      intro p hp
      obtain rfl : p = 64 := by omega
      refine zJ_iload dX12_meet_15 rfl ?_
      refine zJ_bipush (v := nI 64) dX12_meet_17 rfl ?_
      refine zJ_icmp_ge 57 dX12_meet_19 (by decide) (fun _ => ?_) (fun c19 => absurd (nI_le (by omega) (by omega)) c19)
      refine zJ_iload_n dX12_meet_57 rfl ?_
      refine zJ_iret rfl dX12_meet_58 ?_
      exact ⟨_, I, rfl, rfl, cntF_nI.symm, cQ hI fQ_rfl⟩
    | succ k ih =>
      intro p hp
      have IH := ih (p + 1) (by omega)
      simp only [cB] at IH
      refine zJ_iload dX12_meet_15 rfl ?_
      refine zJ_bipush (v := nI 64) dX12_meet_17 rfl ?_
      refine zJ_icmp_ge 57 dX12_meet_19 (by decide) (fun c19 => absurd c19 (nI_ge (by omega) (by omega))) (fun _ => ?_)
      refine zJ_aload_n dX12_meet_22 rfl ?_
      refine zP_getr lf_X12_97 (zSt_ob hs 0 12 rfl) rfl (zSt_rf hs 0 13 62 rfl) dX12_meet_23 ?_
      refine zJ_iload_n dX12_meet_26 rfl ?_
      refine zJ_iload dX12_meet_27 rfl ?_
      refine zP_callVi [_, _] _ lv_X12_313 (k_has (d := d - 1) hl (by omega) (zSt_state hs) (by omega) (by omega)) (zSt_ob hs 62 8 rfl) rfl (by omega) (Nat.le_of_ble_eq_true rfl) rfl dX12_meet_29 ?_
      rw [zRow_has hR (by omega) (by omega)]
      refine zJ_if_eq 51 dX12_meet_32 (by decide) (fun c32 => ?_) (fun c32 => ?_)
      · replace c32 := zb0.mp c32
        refine zJ_iinc1 dX12_meet_51 rfl (by decide) ?_
        refine zJ_goto 15 dX12_meet_54 (by decide) ?_
        have e : f p = false := by rw [hfx, c32]; rfl
        simp only [e] at IH
        exact IH
      · replace c32 := zb1.mp c32
        refine zJ_aload_n dX12_meet_35 rfl ?_
        refine zP_getr lf_X12_97 (zSt_ob hs 0 12 rfl) rfl (zSt_rf hs 0 13 62 rfl) dX12_meet_36 ?_
        refine zJ_iload_n dX12_meet_39 rfl ?_
        refine zJ_iload dX12_meet_40 rfl ?_
        refine zP_callVi [_, _] _ lv_X12_313 (k_has (d := d - 1) hl (by omega) (zSt_state hs) (by omega) (by omega)) (zSt_ob hs 62 8 rfl) rfl (by omega) (Nat.le_of_ble_eq_true rfl) rfl dX12_meet_42 ?_
        rw [zRow_has hR (by omega) (by omega)]
        refine zJ_if_eq 51 dX12_meet_45 (by decide) (fun c45 => ?_) (fun c45 => ?_)
        · replace c45 := zb0.mp c45
          refine zJ_iinc1 dX12_meet_51 rfl (by decide) ?_
          refine zJ_goto 15 dX12_meet_54 (by decide) ?_
          have e : f p = false := by rw [hfx, c45, Bool.and_false]
          simp only [e] at IH
          exact IH
        · replace c45 := zb1.mp c45
          refine zJ_iinc1 dX12_meet_48 rfl (by decide) ?_
          refine zJ_iinc1 dX12_meet_51 rfl (by decide) ?_
          refine zJ_goto 15 dX12_meet_54 (by decide) ?_
          have e : f p = true := by rw [hfx, c32, c45]; rfl
          simp only [e] at IH
          exact IH
  refine zJ_aload_n dX12_meet_0 rfl ?_
  refine zJ_iload_n dX12_meet_1 rfl ?_
  refine zP_callVv [_] _ lv_X12_211 (k_needNet (d := d - 1) hl (by omega) hs (k_ntt hI hn)) (zSt_ob hs 0 12 rfl) rfl (by omega) (Nat.le_of_ble_eq_true rfl) rfl dX12_meet_2 ?_
  refine zJ_aload_n dX12_meet_5 rfl ?_
  refine zJ_iload_n dX12_meet_6 rfl ?_
  refine zP_callVv [_] _ lv_X12_211 (k_needNet (d := d - 1) hl (by omega) hs (k_ntt hI hm)) (zSt_ob hs 0 12 rfl) rfl (by omega) (Nat.le_of_ble_eq_true rfl) rfl dX12_meet_7 ?_
  refine zJ_iconst (v := nI 0) dX12_meet_10 rfl ?_
  refine zJ_istore_m 3 dX12_meet_11 rfl (Nat.le_of_ble_eq_true rfl) (by decide) ?_
  refine zJ_iconst (v := nI 0) dX12_meet_12 rfl ?_
  refine zJ_istore dX12_meet_13 (Nat.le_of_ble_eq_true rfl) (by decide) ?_
  exact loop 64 0 (by omega)
def deaF (b : zWo) (R : rwT) (n p : Nat) : Int32 := if R (n * 64 + p) = -1 ∨ R (n * 64 + p) = nI 4 then 0 else lawV b (nmM b R n p)
theorem k_dear (hl : l.stackTraces = false) (hd : 12 ≤ d) (hs : zSt g) {S : sT} (hI : cI I g S) (hok : okS S) {n : Nat} (hn : n < bN S.2.1) : zEi l Xi mX12_dear d [.ref 0, .int (nI n)] I g (fun v J => v = sumF (deaF S.2.1 S.2.2.1 n) 64 ∧ cI J g S ∧ fC I J) := by
  refine zC_of hl rfl rfl rfl (Nat.le_of_ble_eq_true rfl) (zav_r (zSt_ob hs 0 12 rfl).1 (zav_i zav_0)) ?_
  obtain ⟨hW, hR, hokR, hwk, hwI, hbk⟩ := cI_ctx hI hok
  have hN6 := hW.1.2.2.2.2.1
  have sumS : ∀ {f : Nat → Int32} {k : Nat}, sumF f (k + 1) = sumF f k + f k := rfl
  obtain ⟨f, hff⟩ : ∃ f : Nat → Int32, deaF S.2.1 S.2.2.1 n = f := ⟨_, rfl⟩
  rw [hff]
  have f0 : ∀ x, (S.2.2.1 (n * 64 + x) = -1 ∨ S.2.2.1 (n * 64 + x) = nI 4) → f x = 0 := fun x hx => by rw [← hff]; unfold deaF; rw [if_pos hx]
  have f1 : ∀ x, ¬ (S.2.2.1 (n * 64 + x) = -1 ∨ S.2.2.1 (n * 64 + x) = nI 4) → f x = lawV S.2.1 (nmM S.2.1 S.2.2.1 n x) := fun x hx => by rw [← hff]; unfold deaF; rw [if_neg hx]
  have loop : ∀ k p (J : zI), p + k = 64 → fQ I J → zJ l Xi mX12_dear d 0 0 9 [some (.ref 0), some (.int (nI n)), some (.int (sumF f p)), some (.int (nI p)), none] [] (J, g) (fun r' h' => ∃ x I', r' = .inl (some (.int x)) ∧ h' = (I', g) ∧ x = sumF f 64 ∧ cI I' g S ∧ fC I I') := by
    intro k
    induction k with
    | zero =>
      intro p J hp hf
      obtain rfl : p = 64 := by omega
      refine zJ_iload_n dX12_dear_9 rfl ?_
      refine zJ_bipush (v := nI 64) dX12_dear_10 rfl ?_
      refine zJ_icmp_ge 65 dX12_dear_12 (by decide) (fun _ => ?_) (fun c12 => absurd (nI_le (by omega) (by omega)) c12)
      refine zJ_iload_n dX12_dear_65 rfl ?_
      refine zJ_iret rfl dX12_dear_66 ?_
      exact ⟨_, J, rfl, rfl, rfl, cQ hI hf⟩
    | succ k ih =>
      intro p J hp hf
      have hIJ := cI_fQ hI hf
      have hWJ := hIJ.2.2.1
      have hRJ := hIJ.2.2.2.1
      have IH := fun K hK => ih (p + 1) K (by omega) hK
      refine zJ_iload_n dX12_dear_9 rfl ?_
      refine zJ_bipush (v := nI 64) dX12_dear_10 rfl ?_
      refine zJ_icmp_ge 65 dX12_dear_12 (by decide) (fun c12 => absurd c12 (nI_ge (by omega) (by omega))) (fun _ => ?_)
      refine zJ_aload_n dX12_dear_15 rfl ?_
      refine zP_getr lf_X12_97 (zSt_ob hs 0 12 rfl) rfl (zSt_rf hs 0 13 62 rfl) dX12_dear_16 ?_
      refine zP_getr lf_X12_287 (zSt_ob hs 62 8 rfl) rfl (zSt_rf hs 62 0 63 rfl) dX12_dear_19 ?_
      refine zJ_iload_n dX12_dear_22 rfl ?_
      refine zJ_bipush (v := nI 64) dX12_dear_23 rfl ?_
      refine zJ_imul dX12_dear_25 ?_
      refine zJ_iload_n dX12_dear_26 rfl ?_
      refine zJ_iadd dX12_dear_27 ?_
      rw [pk_mul, nI_add]
      refine zP_iald (zSt_ar hs 63 384 rfl) (by first | assumption | with_reducible exact vp_in_nI (by omega) (by omega) | (simp (disch := omega) only [nI_add, pk_mul, pk_sub, pk_div, pk_rem, nI_clamp]; with_reducible exact vp_in_nI (by omega) (by omega))) dX12_dear_28 ?_
      rw [nI_clamp (by omega), hRJ.1 _ (by omega)]
      refine zJ_istore dX12_dear_29 (Nat.le_of_ble_eq_true rfl) (by decide) ?_
      refine zJ_iload dX12_dear_31 rfl ?_
      refine zJ_iconst (v := -1) dX12_dear_33 rfl ?_
      refine zJ_icmp_eq 59 dX12_dear_34 (by decide) (fun c34 => ?_) (fun c34 => ?_)
      · skip
        refine zJ_iinc1 dX12_dear_59 rfl (by decide) ?_
        refine zJ_goto 9 dX12_dear_62 (by decide) ?_
        exact zJ_back (zle_r (zle_r (zle_i (by rw [sumS, f0 p (Or.inl c34)]; simp) (zle_r (zle_n zle_0))))) rfl (IH J hf)
      · skip
        refine zJ_iload dX12_dear_37 rfl ?_
        refine zJ_iconst (v := nI 4) dX12_dear_39 rfl ?_
        refine zJ_icmp_eq 59 dX12_dear_40 (by decide) (fun c40 => ?_) (fun c40 => ?_)
        · skip
          refine zJ_iinc1 dX12_dear_59 rfl (by decide) ?_
          refine zJ_goto 9 dX12_dear_62 (by decide) ?_
          exact zJ_back (zle_r (zle_r (zle_i (by rw [sumS, f0 p (Or.inr c40)]; simp) (zle_r (zle_n zle_0))))) rfl (IH J hf)
        · skip
          refine zJ_iload_n dX12_dear_43 rfl ?_
          refine zJ_aload_n dX12_dear_44 rfl ?_
          refine zP_getr lf_X12_67 (zSt_ob hs 0 12 rfl) rfl (zSt_rf hs 0 9 43 rfl) dX12_dear_45 ?_
          refine zJ_aload_n dX12_dear_48 rfl ?_
          refine zP_getr lf_X12_97 (zSt_ob hs 0 12 rfl) rfl (zSt_rf hs 0 13 62 rfl) dX12_dear_49 ?_
          refine zJ_iload_n dX12_dear_52 rfl ?_
          refine zJ_iload_n dX12_dear_53 rfl ?_
          refine zP_callVi [_, _, _] _ lv_X12_272 (k_X6_priceOf (len := bln S.2.1) (d := d - 1) hl (by omega) hs (zSt_state hs) (by decide) (by omega) (by omega) hWJ.2.2.2.2.2.2.2.1 hWJ.1.2.2.2.2.2.2.2.2.2.1 (fun i hi => by rw [hWJ.2.2.2.2.2.2.2.2.1 i hi]; obtain ⟨dp, -, -, h9⟩ := hWJ.1.2.2.2.2.2.2.2.2.2.2; exact (h9 i hi).1)) (zSt_ob hs 43 6 rfl) rfl (by omega) (Nat.le_of_ble_eq_true rfl) rfl dX12_dear_54 ?_
          rw [price_eq hWJ hRJ (by omega) (by omega)]
          refine zJ_iadd dX12_dear_57 ?_
          refine zJ_istore_m 2 dX12_dear_58 rfl (Nat.le_of_ble_eq_true rfl) (by decide) ?_
          refine zJ_iinc1 dX12_dear_59 rfl (by decide) ?_
          refine zJ_goto 9 dX12_dear_62 (by decide) ?_
          exact zJ_back (zle_r (zle_r (zle_i (by rw [sumS, f1 p (fun z => z.elim c34 c40)]) (zle_r (zle_n zle_0))))) rfl (IH _ (fQ_trans hf fQ_2224))
  refine zJ_aload_n dX12_dear_0 rfl ?_
  refine zJ_iload_n dX12_dear_1 rfl ?_
  refine zP_callVv [_] _ lv_X12_211 (k_needNet (d := d - 1) hl (by omega) hs (k_ntt hI hn)) (zSt_ob hs 0 12 rfl) rfl (by omega) (Nat.le_of_ble_eq_true rfl) rfl dX12_dear_2 ?_
  refine zJ_iconst (v := nI 0) dX12_dear_5 rfl ?_
  refine zJ_istore_m 2 dX12_dear_6 rfl (Nat.le_of_ble_eq_true rfl) (by decide) ?_
  refine zJ_iconst (v := nI 0) dX12_dear_7 rfl ?_
  refine zJ_istore_m 3 dX12_dear_8 rfl (Nat.le_of_ble_eq_true rfl) (by decide) ?_
  exact loop 64 0 I (by omega) fQ_rfl
def sheV (b : zWo) (R : rwT) (n : Nat) : Int32 := if bpc b n = 0 then 0 else nI (cB (kepM b R n) 64)
theorem k_shed (hl : l.stackTraces = false) (hd : 12 ≤ d) (hs : zSt g) {S : sT} (hI : cI I g S) (hok : okS S) {n : Nat} (hn : n < bN S.2.1) : zEi l Xi mX12_shed d [.ref 0, .int (nI n)] I g (fun v J => v = sheV S.2.1 S.2.2.1 n ∧ cI J g S ∧ fC I J) := by
  refine zC_of hl rfl rfl rfl (Nat.le_of_ble_eq_true rfl) (zav_r (zSt_ob hs 0 12 rfl).1 (zav_i zav_0)) ?_
  obtain ⟨hW, hR, hokR, hwk, hwI, hbk⟩ := cI_ctx hI hok
  have hN6 := hW.1.2.2.2.2.1
  have hpc := hW.2.1.2.2.2.2.2.2.1 n (by omega)
  unfold sheV
  by_cases e : bpc S.2.1 n = 0
  · rw [if_pos e]
    refine zJ_aload_n dX12_shed_0 rfl ?_
    refine zJ_iload_n dX12_shed_1 rfl ?_
    refine zP_callVv [_] _ lv_X12_211 (k_needNet (d := d - 1) hl (by omega) hs (k_ntt hI hn)) (zSt_ob hs 0 12 rfl) rfl (by omega) (Nat.le_of_ble_eq_true rfl) rfl dX12_shed_2 ?_
    refine zJ_aload_n dX12_shed_5 rfl ?_
    refine zP_getr lf_X12_19 (zSt_ob hs 0 12 rfl) rfl (zSt_rf hs 0 1 3 rfl) dX12_shed_6 ?_
    refine zP_getr lf_X12_221 (zSt_ob hs 3 0 rfl) rfl (zSt_rf hs 3 6 6 rfl) dX12_shed_9 ?_
    refine zJ_iload_n dX12_shed_12 rfl ?_
    refine zP_iald (zSt_ar hs 6 6 rfl) (by first | assumption | with_reducible exact vp_in_nI (by omega) (by omega) | (simp (disch := omega) only [nI_add, pk_mul, pk_sub, pk_div, pk_rem, nI_clamp]; with_reducible exact vp_in_nI (by omega) (by omega))) dX12_shed_13 ?_
    rw [nI_clamp (by omega), hpc.1, e]
    refine zJ_if_ne 21 dX12_shed_14 (by decide) (fun c14 => absurd rfl c14) (fun _ => ?_)
    refine zJ_iconst (v := nI 0) dX12_shed_17 rfl ?_
    refine zJ_goto 33 dX12_shed_18 (by decide) ?_
    refine zJ_iret rfl dX12_shed_33 ?_
    exact ⟨_, I, rfl, rfl, rfl, cQ hI fQ_rfl⟩
  · rw [if_neg e]
    refine zJ_aload_n dX12_shed_0 rfl ?_
    refine zJ_iload_n dX12_shed_1 rfl ?_
    refine zP_callVv [_] _ lv_X12_211 (k_needNet (d := d - 1) hl (by omega) hs (k_ntt hI hn)) (zSt_ob hs 0 12 rfl) rfl (by omega) (Nat.le_of_ble_eq_true rfl) rfl dX12_shed_2 ?_
    refine zJ_aload_n dX12_shed_5 rfl ?_
    refine zP_getr lf_X12_19 (zSt_ob hs 0 12 rfl) rfl (zSt_rf hs 0 1 3 rfl) dX12_shed_6 ?_
    refine zP_getr lf_X12_221 (zSt_ob hs 3 0 rfl) rfl (zSt_rf hs 3 6 6 rfl) dX12_shed_9 ?_
    refine zJ_iload_n dX12_shed_12 rfl ?_
    refine zP_iald (zSt_ar hs 6 6 rfl) (by first | assumption | with_reducible exact vp_in_nI (by omega) (by omega) | (simp (disch := omega) only [nI_add, pk_mul, pk_sub, pk_div, pk_rem, nI_clamp]; with_reducible exact vp_in_nI (by omega) (by omega))) dX12_shed_13 ?_
    rw [nI_clamp (by omega), hpc.1]
    refine zJ_if_ne 21 dX12_shed_14 (by decide) (fun _ => ?_) (fun c14 => absurd c14 (nI_ne0 (by omega) (by omega)))
    refine zJ_aload_n dX12_shed_21 rfl ?_
    refine zP_getr lf_X12_67 (zSt_ob hs 0 12 rfl) rfl (zSt_rf hs 0 9 43 rfl) dX12_shed_22 ?_
    refine zJ_aload_n dX12_shed_25 rfl ?_
    refine zP_getr lf_X12_97 (zSt_ob hs 0 12 rfl) rfl (zSt_rf hs 0 13 62 rfl) dX12_shed_26 ?_
    refine zJ_iload_n dX12_shed_29 rfl ?_
    refine zP_ecallVi [_, _] _ lv_X12_317 (k_X6_markKept (d := d - 1) hl (by omega) hs (zSt_state hs) (by decide) (by omega) (by omega) hW hR hwk) (zSt_ob hs 43 6 rfl) rfl (by omega) (Nat.le_of_ble_eq_true rfl) rfl dX12_shed_30 (fun v J hv => ?_)
    refine zJ_iret rfl dX12_shed_33 ?_
    obtain ⟨hv1, f, rfl, -⟩ := hv
    exact ⟨_, _, rfl, rfl, hv1, cQ hI (fQ_fZ (fZ_up fZ_rfl (by decide)))⟩
end ZX12b
