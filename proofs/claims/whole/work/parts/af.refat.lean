/-! ===== the reference: work ===== -/
section ZRefAT
variable {l : Launch} {Xi : zXi} {d : Nat} {I : zI} {g : zG}
theorem cm_steps (hl : l.stackTraces = false) (hs : zSt g) {N C R : Nat} : ∀ f, cS l Xi g N C R f := by
  have main : ∀ n f, f ≤ n → cS l Xi g N C R f := by
    intro n
    induction n with
    | zero =>
      intro f hf
      obtain rfl : f = 0 := by omega
      exact fun o d I bs L A b k _ _ _ _ _ _ hne => absurd rfl hne
    | succ n ih =>
      intro f hf
      cases f with
      | zero => exact fun o d I bs L A b k _ _ _ _ _ _ hne => absurd rfl hne
      | succ f => exact cm_step hl hs (fun k hk => ih k (by omega))
  exact fun f => main f f (Nat.le_refl _)
theorem cm_goal (hl : l.stackTraces = false) (hs : zSt g) {b : zWo} {ts : List tok} (hg : gnOk b) (hr : rn ts ts.length ≤ 80) : ∀ f, cG l Xi g b ts f := by
  have main : ∀ n f, f < n → cG l Xi g b ts f := by
    intro n
    induction n with
    | zero => intro f hf; omega
    | succ n ih => intro f hf; exact cm_goes hl hs hg hr (fun k hk => ih k (by omega))
  exact fun f => main (f + 1) f (by omega)
noncomputable def rwkQ (S : sT) (L : Nat) (I : zI) (v : Int32) (J : zI) : Prop := J 74 0 = nI 0 ∧ rO I J ∧ if 16 ≤ S.2.2.2.2.1.1 then v = -20 ∧ rI J (fulS S) else match pW S.1.2.1 L (bN S.2.1) (bC S.2.1) (bR S.2.1) 400 0 0 0 0 with
  | .inl q => v = errV q ∧ rI J (fltS S q.2)
  | .inr q => v = nI (exR S.2.1 q.1 S.2.2.1).2.1 ∧ rI J (wkN S q.1)
set_option maxHeartbeats 2000000 in
theorem m_work (hl : l.stackTraces = false) (hd : 24 ≤ d) (hs : zSt g) {S : sT} (hI : rI I S) (hok : okS S) {L : Nat} (hL : L ≤ S.1.1) (hL2 : L ≤ 150) : zEi l Xi mX13_work d [.ref 74, .int (nI L)] I g (rwkQ S L I) := by
  refine zC_of hl rfl rfl rfl (Nat.le_of_ble_eq_true rfl) (zav_r (zSt_ob hs 74 13 rfl).1 (zav_i zav_0)) ?_
  have hI0 := rI_rQ hI (rQ_thr (x := nI 0))
  have h600 := hI.1.2.1
  have htp : (zup I 74 0 (nI 0)) 74 1 = nI S.1.1 := hI0.1.1
  have hwk : (zup I 74 0 (nI 0)) 74 36 = nI S.2.2.2.2.1.1 := hI0.2.2.2.2.2.1.1
  have hw16 := hI.2.2.2.2.2.1.2.1
  have hbd := hI.2.2.1.1
  have hN6 := hbd.2.2.2.2.1
  have ha := zSt_ar hs 533 519 rfl
  obtain ⟨bs, hbs⟩ : ∃ bs, S.1.2.1 = bs := ⟨_, rfl⟩
  obtain ⟨X, hX⟩ : ∃ X, pW bs L (bN S.2.1) (bC S.2.1) (bR S.2.1) 400 0 0 0 0 = X := ⟨_, rfl⟩
  obtain ⟨P, hP⟩ : ∃ P : zR → zH → Prop, P = (fun r' h' => ∃ v J, r' = .inl (some (.int v)) ∧ h' = (J, g) ∧ rwkQ S L I v J) := ⟨_, rfl⟩
  rw [← hP]
  by_cases hz : 16 ≤ S.2.2.2.2.1.1
  · skip
    refine zJ_aload_n dX13_work_0 rfl ?_
    refine zJ_iconst (v := nI 0) dX13_work_1 rfl ?_
    refine zP_puti lf_X13_107 (zSt_ob hs 74 13 rfl) rfl dX13_work_2 ?_
    refine zJ_aload_n dX13_work_5 rfl ?_
    refine zJ_iload_n dX13_work_6 rfl ?_
    refine zJ_iconst (v := nI 0) dX13_work_7 rfl ?_
    refine zJ_aload_n dX13_work_8 rfl ?_
    refine zP_geti lf_X13_110 (zSt_ob hs 74 13 rfl) rfl dX13_work_9 ?_
    rw [htp]
    refine zP_callSi [_, _, _] _ ls_X13_141 (k_in (d := d - 1) hl (by omega)) rfl (by omega) (Nat.le_of_ble_eq_true rfl) rfl dX13_work_12 ?_
    rw [in_ok (Nat.zero_le _) hL (by omega)]
    refine zJ_if_eq 25 dX13_work_15 (by decide) (fun c15 => absurd c15 (by decide)) (fun _ => ?_)
    refine zJ_iload_n dX13_work_18 rfl ?_
    refine zJ_sipush (v := nI 150) dX13_work_19 rfl ?_
    refine zJ_icmp_le 29 dX13_work_22 (by decide) (fun _ => ?_) (fun c22 => absurd ((nI_leI (by omega) (by omega)).mpr hL2) c22)
    refine zJ_iconst (v := nI 0) dX13_work_29 rfl ?_
    refine zJ_iconst (v := nI 1) dX13_work_30 rfl ?_
    refine zJ_iconst (v := nI 1) dX13_work_31 rfl ?_
    refine zP_callVi [_, _, _] _ lv_X13_186 (m_badF (d := d - 1) hl (by omega) hs thr_at) (zSt_ob hs 74 13 rfl) rfl (by omega) (Nat.le_of_ble_eq_true rfl) rfl dX13_work_32 ?_
    refine zJ_if_eq 40 dX13_work_35 (by decide) (fun _ => ?_) (fun c35 => absurd rfl c35)
    refine zJ_aload_n dX13_work_40 rfl ?_
    refine zP_geti lf_X13_218 (zSt_ob hs 74 13 rfl) rfl dX13_work_41 ?_
    rw [hwk, show S.2.2.2.2.1.1 = 16 by omega]
    refine zJ_bipush (v := nI 16) dX13_work_44 rfl ?_
    refine zJ_icmp_ne 62 dX13_work_46 (by decide) (fun c46 => absurd rfl c46) (fun _ => ?_)
    refine zJ_aload_n dX13_work_49 rfl ?_
    refine zJ_iconst (v := nI 0) dX13_work_50 rfl ?_
    refine zP_puti lf_X13_110 (zSt_ob hs 74 13 rfl) rfl dX13_work_51 ?_
    refine zJ_aload_n dX13_work_54 rfl ?_
    refine zJ_iconst (v := -1) dX13_work_55 rfl ?_
    refine zP_puti lf_X13_9 (zSt_ob hs 74 13 rfl) rfl dX13_work_56 ?_
    refine zJ_bipush (v := -20) dX13_work_59 rfl ?_
    refine zJ_iret rfl dX13_work_61 ?_
    rw [hP]
    obtain ⟨K, hK⟩ : ∃ K, zup (zup (zup I 74 0 (nI 0)) 74 1 (nI 0)) 74 3 (-1) = K := ⟨_, rfl⟩
    have eK : ∀ a, a ≠ 74 → K a = I a := fun a q => by rw [← hK, zup_row q, zup_row q, zup_row q]
    have fK : ∀ k, k ≠ 0 → k ≠ 1 → k ≠ 3 → K 74 k = I 74 k := fun k q0 q1 q3 => by rw [← hK, zup_same, upd_ne q3, zup_same, upd_ne q1, zup_same, upd_ne q0]
    first
      | rw [hK]
      | skip
    refine ⟨_, K, rfl, rfl, by rw [← hK, zup_same, upd_ne (by decide), zup_same, upd_ne (by decide)]; exact thr_at, fun a q => eK a (by omega), ?_⟩
    rw [if_pos hz]
    refine ⟨rfl, ?_⟩
    unfold fulS
    exact rI_txt hI (fun a q => eK a (by omega)) (fun k q => fK k (by omega) (by omega) (by omega)) (by rw [← hK, zup_same, upd_ne (by decide), zup_same, upd_at]) (by rw [← hK, zup_same, upd_at])
  obtain ⟨E, hE⟩ : ∃ E : zI → Prop, E = fun J => (∀ a, a ≠ 74 → (a < 453 ∨ 532 < a) → J a = I a) ∧ (∀ k, k ≠ 0 → k ≠ 1 → k ≠ 2 → k ≠ 4 → k ≠ 5 → k ≠ 6 → k ≠ 7 → k ≠ 8 → k ≠ 29 → J 74 k = I 74 k) ∧ J 74 0 = nI 0 ∧ J 74 1 = nI 0 := ⟨_, rfl⟩
  have EfS : ∀ {J K : zI} {k : Nat}, E J → fS k J K → E K := by
    intro J K k h1 h2
    rw [hE] at h1 ⊢
    exact ⟨fun a q1 q2 => (h2.1 a q1 (by omega)).trans (h1.1 a q1 q2), fun k q0 q1 q2 q4 q5 q6 q7 q8 q9 => (h2.2 k q4 q5 q6 q8 q9).trans (h1.2.1 k q0 q1 q2 q4 q5 q6 q7 q8 q9), (h2.2 0 (by decide) (by decide) (by decide) (by decide) (by decide)).trans h1.2.2.1, (h2.2 1 (by decide) (by decide) (by decide) (by decide) (by decide)).trans h1.2.2.2⟩
  have bad : ∀ (J : zI) (A : Nat) (q : Nat × Nat), E J → rz J bs L A (some q) → X = .inl q → zJ l Xi mX13_work d 0 0 72 [some (.ref 74), some (.int (nI L))] [] (J, g) P := by
    intro J A q e hz2 hXq
    rw [hE] at e
    have hq := hz2.2.2.2.2.2.2.1 q rfl
    have hne : ¬ J 74 5 = 0 := by rw [hz2.2.2.2.2.1]; exact nI_ne0 (by show 0 < q.1; omega) (by show q.1 < _; omega)
    rw [hP]
    refine zJ_aload_n dX13_work_72 rfl ?_
    refine zP_geti lf_X13_123 (zSt_ob hs 74 13 rfl) rfl dX13_work_73 ?_
    refine zJ_if_ne 101 dX13_work_76 (by decide) (fun _ => ?_) (fun c76 => absurd c76 hne)
    refine zJ_aload_n dX13_work_101 rfl ?_
    refine zP_geti lf_X13_123 (zSt_ob hs 74 13 rfl) rfl dX13_work_102 ?_
    refine zJ_if_eq 113 dX13_work_105 (by decide) (fun c105 => absurd c105 hne) (fun _ => ?_)
    refine zJ_aload_n dX13_work_108 rfl ?_
    refine zP_callVi [] _ lv_X13_196 (m_ends (d := d - 1) hl (by omega) hs hz2) (zSt_ob hs 74 13 rfl) rfl (by omega) (Nat.le_of_ble_eq_true rfl) rfl dX13_work_109 ?_
    refine zJ_iret rfl dX13_work_112 ?_
    refine ⟨_, _, rfl, rfl, by rw [zup_same, upd_ne (by decide)]; exact e.2.2.1, fun a ha => by rw [zup_row (by omega)]; exact e.1 a (by omega) (by omega), ?_⟩
    rw [if_neg hz, hbs, hX, hXq]
    refine ⟨rfl, ?_⟩
    unfold fltS
    exact rI_txt hI (fun a ha => by rw [zup_row (by omega)]; exact e.1 a (by omega) (by omega)) (fun k hk => by rw [zup_same, upd_ne (by omega)]; exact e.2.1 k (by omega) (by omega) (by omega) (by omega) (by omega) (by omega) (by omega) (by omega) (by omega)) (by rw [zup_same, upd_ne (by decide)]; exact e.2.2.2) (by rw [zup_same, upd_at])
  have good : ∀ (J : zI) (A : Nat) (ts : List tok), E J → rz J bs L A none → L ≤ A → rq J 0 0 ts → J 74 29 = nI (rn ts ts.length) → rn ts ts.length ≤ 80 → X = .inr (ts, A) → zJ l Xi mX13_work d 0 0 72 [some (.ref 74), some (.int (nI L))] [] (J, g) P := by
    intro J A ts e hz2 hLA hrq h29 hr80 hXt
    rw [hE] at e
    have hAL := hz2.2.2.2.1
    have hsq := pW_sq (hX.trans hXt) (Nat.zero_le _) [] [] rfl
    simp only [List.nil_append, List.append_nil, Nat.zero_add] at hsq
    have hfu := (exW_fuel (b := S.2.1) (f := 42 * ts.length + 1) (k := 0) (s := (0, 0, 0, S.2.2.1)) hsq.1 (Nat.zero_le _)).1 (by omega)
    obtain ⟨FIN, hFIN⟩ : ∃ F, exW S.2.1 ts (42 * ts.length + 1) 0 0 0 ts.length (0, 0, 0, S.2.2.1) = some F := by
      cases z : exW S.2.1 ts (42 * ts.length + 1) 0 0 0 ts.length (0, 0, 0, S.2.2.1) with
      | none => exact absurd z hfu
      | some F => exact ⟨F, rfl⟩
    have hex : exR S.2.1 ts S.2.2.1 = FIN := by unfold exR; rw [hFIN]; rfl
    obtain ⟨i1, i2, i3, i4, i5, i6, i7, i8, i9, i10⟩ := hI
    obtain ⟨w, hw⟩ : ∃ w, S.2.2.2.2.1.1 = w := ⟨_, rfl⟩
    rw [hw] at i6 hz
    have hwJ : J 74 36 = nI w := by rw [e.2.1 36 (by decide) (by decide) (by decide) (by decide) (by decide) (by decide) (by decide) (by decide) (by decide)]; exact i6.1
    obtain ⟨J1, hJ1⟩ : ∃ J1, va_up (zup J 74 3 (-1)) (536 + 1 + w) (fun k => if k < 519 then zup J 74 3 (-1) 533 k else zup J 74 3 (-1) (536 + 1 + w) k) = J1 := ⟨_, rfl⟩
    have hRw : rRow J1 (536 + 1 + w) S.2.1 S.2.2.1 := by
      rw [← hJ1]
      exact copy_to hN6 (rRow_of i4 (by rw [zup_row (by decide), e.1 533 (by decide) (by decide)]))
    have eJ1 : ∀ a, a ≠ 74 → a ≠ 536 + 1 + w → J1 a = J a := fun a q1 q2 => by rw [← hJ1, va_up_row q2, zup_row q1]
    have gJ1 : ∀ k, k ≠ 3 → J1 74 k = J 74 k := fun k q => by rw [← hJ1, va_up_row (by omega), zup_same, upd_ne q]
    have hJ13 : J1 74 3 = -1 := by rw [← hJ1, va_up_row (by omega), zup_same, upd_at]
    obtain ⟨J2, hJ2⟩ : ∃ J2, zup (zup (zup (zup J1 74 36 (nI (w + 1))) 74 43 (nI 0)) 74 44 (nI 0)) 74 37 (nI 0) = J2 := ⟨_, rfl⟩
    have eJ2 : ∀ a, a ≠ 74 → J2 a = J1 a := fun a q => by rw [← hJ2, zup_row q, zup_row q, zup_row q, zup_row q]
    have gJ2 : ∀ k, k ≠ 36 → k ≠ 43 → k ≠ 44 → k ≠ 37 → J2 74 k = J1 74 k := fun k q1 q2 q3 q4 => by rw [← hJ2, zup_same, upd_ne q4, zup_same, upd_ne q3, zup_same, upd_ne q2, zup_same, upd_ne q1]
    have j36 : J2 74 36 = nI (w + 1) := by rw [← hJ2, zup_same, upd_ne (by decide), zup_same, upd_ne (by decide), zup_same, upd_ne (by decide), zup_same, upd_at]
    have j43 : J2 74 43 = nI 0 := by rw [← hJ2, zup_same, upd_ne (by decide), zup_same, upd_ne (by decide), zup_same, upd_at]
    have j44 : J2 74 44 = nI 0 := by rw [← hJ2, zup_same, upd_ne (by decide), zup_same, upd_at]
    have j37 : J2 74 37 = nI 0 := by rw [← hJ2, zup_same, upd_at]
    have eI : ∀ a, a ≠ 74 → a ≠ 536 + 1 + w → (a < 453 ∨ 532 < a) → J2 a = I a := fun a q1 q2 q3 => by rw [eJ2 a q1, eJ1 a q1 q2, e.1 a q1 q3]
    have gI : ∀ k, k = 20 ∨ k = 35 ∨ k = 38 → J2 74 k = I 74 k := fun k hk => by rw [gJ2 k (by omega) (by omega) (by omega) (by omega), gJ1 k (by omega), e.2.1 k (by omega) (by omega) (by omega) (by omega) (by omega) (by omega) (by omega) (by omega) (by omega)]
    have hBJ2 : rB J2 S.2.1 := rB_of i3 (gI 20 (by decide)) (fun a q => eI a (by omega) (by omega) (by omega))
    have hrq2 : rq J2 0 0 ts := rq_of hrq (fun a q1 q2 => by rw [eJ2 a (by omega), eJ1 a (by omega) (by omega)])
    have hgs : gS J2 S.2.1 (0, 0, 0, S.2.2.1) := ⟨rRow_of i4 (eI 533 (by decide) (by omega) (by decide)), hok.2.1, Nat.zero_le _, j43, j44, j37⟩
    have h29b : J2 74 29 = nI (rn ts ts.length) := by rw [gJ2 29 (by decide) (by decide) (by decide) (by decide), gJ1 29 (by decide)]; exact h29
    rw [hP]
    refine zJ_aload_n dX13_work_72 rfl ?_
    refine zP_geti lf_X13_123 (zSt_ob hs 74 13 rfl) rfl dX13_work_73 ?_
    refine zJ_if_ne 101 dX13_work_76 (by decide) (fun c76 => absurd hz2.2.2.2.2.1 c76) (fun _ => ?_)
    refine zJ_aload_n dX13_work_79 rfl ?_
    refine zP_geti lf_X13_116 (zSt_ob hs 74 13 rfl) rfl dX13_work_80 ?_
    refine zJ_aload_n dX13_work_83 rfl ?_
    refine zP_geti lf_X13_113 (zSt_ob hs 74 13 rfl) rfl dX13_work_84 ?_
    rw [hz2.2.2.1, hz2.1]
    refine zJ_icmp_ge 101 dX13_work_87 (by decide) (fun _ => ?_) (fun c87 => absurd (nI_le (by omega) (by omega)) c87)
    refine zJ_aload_n dX13_work_101 rfl ?_
    refine zP_geti lf_X13_123 (zSt_ob hs 74 13 rfl) rfl dX13_work_102 ?_
    refine zJ_if_eq 113 dX13_work_105 (by decide) (fun _ => ?_) (fun c105 => absurd hz2.2.2.2.2.1 c105)
    refine zJ_aload_n dX13_work_113 rfl ?_
    refine zJ_iconst (v := -1) dX13_work_114 rfl ?_
    refine zP_puti lf_X13_9 (zSt_ob hs 74 13 rfl) rfl dX13_work_115 ?_
    refine zJ_aload_n dX13_work_118 rfl ?_
    refine zP_getr lf_X13_70 (zSt_ob hs 74 13 rfl) rfl (zSt_rf hs 74 30 533 rfl) dX13_work_119 ?_
    refine zJ_aload_n dX13_work_122 rfl ?_
    refine zP_getr lf_X13_79 (zSt_ob hs 74 13 rfl) rfl (zSt_rf hs 74 33 536 rfl) dX13_work_123 ?_
    refine zJ_aload_n dX13_work_126 rfl ?_
    refine zP_geti lf_X13_218 (zSt_ob hs 74 13 rfl) rfl dX13_work_127 ?_
    rw [zup_same, upd_ne (by decide), hwJ]
    refine zP_rowK (k := w) (zSt_g536 hs) (by omega) (by decide) dX13_work_130 ?_
    refine zP_callSv [_, _] _ ls_X13_379 (k_copies (d := d - 1) hl (by omega) ha (zGr_ar (zSt_g536 hs) (by omega)) (by omega)) rfl (by omega) (Nat.le_of_ble_eq_true rfl) rfl dX13_work_131 ?_
    rw [hJ1]
    refine zJ_aload_n dX13_work_134 rfl ?_
    refine zJ_dup dX13_work_135 rfl ?_
    refine zP_geti lf_X13_218 (zSt_ob hs 74 13 rfl) rfl dX13_work_136 ?_
    rw [gJ1 36 (by decide), hwJ]
    refine zJ_iconst (v := nI 1) dX13_work_139 rfl ?_
    refine zJ_iadd dX13_work_140 ?_
    rw [nI_add]
    refine zP_puti lf_X13_218 (zSt_ob hs 74 13 rfl) rfl dX13_work_141 ?_
    refine zJ_aload_n dX13_work_144 rfl ?_
    refine zJ_iconst (v := nI 0) dX13_work_145 rfl ?_
    refine zP_puti lf_X13_366 (zSt_ob hs 74 13 rfl) rfl dX13_work_146 ?_
    refine zJ_aload_n dX13_work_149 rfl ?_
    refine zJ_iconst (v := nI 0) dX13_work_150 rfl ?_
    refine zP_puti lf_X13_376 (zSt_ob hs 74 13 rfl) rfl dX13_work_151 ?_
    refine zJ_aload_n dX13_work_154 rfl ?_
    refine zJ_iconst (v := nI 0) dX13_work_155 rfl ?_
    refine zP_puti lf_X13_221 (zSt_ob hs 74 13 rfl) rfl dX13_work_156 ?_
    rw [hJ2]
    refine zJ_aload_n dX13_work_159 rfl ?_
    refine zJ_iconst (v := nI 0) dX13_work_160 rfl ?_
    refine zJ_aload_n dX13_work_161 rfl ?_
    refine zP_geti lf_X13_272 (zSt_ob hs 74 13 rfl) rfl dX13_work_162 ?_
    rw [h29b]
    refine zP_ecallVv [_, _] _ lv_X13_369 (cm_goal hl hs hok.1 hr80 (42 * ts.length + 1) 0 (d - 1) ts.length 0 ts.length (0, 0, 0, S.2.2.1) FIN J2 (by omega) (by omega) hBJ2 hrq2 hgs hsq.1 (Nat.le_refl _) hFIN) (zSt_ob hs 74 13 rfl) rfl (by omega) (Nat.le_of_ble_eq_true rfl) rfl dX13_work_165 (fun J3 h3 => ?_)
    obtain ⟨f3, q1, q2, q3, q4, q5, q6⟩ := h3
    refine zJ_aload_n dX13_work_168 rfl ?_
    refine zP_geti lf_X13_376 (zSt_ob hs 74 13 rfl) rfl dX13_work_169 ?_
    rw [q5]
    refine zJ_iret rfl dX13_work_172 ?_
    have eI3 : ∀ a, a ≠ 74 → a ≠ 536 + 1 + w → (a < 450 ∨ 533 < a) → (a < 557 ∨ 559 < a) → J3 a = I a := fun a h1 h2 h3 h4 => by rw [f3.1 a h1 (by omega) (by omega) (by omega) h4, eI a h1 h2 (by omega)]
    have gI3 : ∀ k, k = 20 ∨ k = 35 ∨ k = 38 → J3 74 k = I 74 k := fun k hk => by rw [f3.2 k (by omega) (by omega) (by omega), gI k hk]
    refine ⟨_, J3, rfl, rfl, by rw [f3.2 0 (by decide) (by decide) (by decide), gJ2 0 (by decide) (by decide) (by decide) (by decide), gJ1 0 (by decide)]; exact e.2.2.1, fun a ha => eI3 a (by omega) (by omega) (by omega) (by omega), ?_⟩
    rw [hw, if_neg hz, hbs, hX, hXt]
    refine ⟨by show nI FIN.2.1 = nI (exR S.2.1 ts S.2.2.1).2.1; rw [hex], ?_⟩
    show rI J3 (wkN S ts)
    unfold wkN
    rw [hex, hbs, hw]
    refine ⟨⟨by rw [f3.2 1 (by decide) (by decide) (by decide), gJ2 1 (by decide) (by decide) (by decide) (by decide), gJ1 1 (by decide)]; exact e.2.2.2, Nat.zero_le _, fun k hk => absurd hk (Nat.not_lt_zero _)⟩, by rw [f3.2 3 (by decide) (by decide) (by decide), gJ2 3 (by decide) (by decide) (by decide) (by decide)]; exact hJ13, rB_of i3 (gI3 20 (by decide)) (fun a q => eI3 a (by omega) (by omega) (by omega) (by omega)), q1, rLn_of i5 (gI3 35 (by decide)) (fun a h1 h2 => eI3 a (by omega) (by omega) (by omega) (by omega)), ⟨by rw [f3.2 36 (by decide) (by decide) (by decide)]; exact j36, by show w + 1 ≤ 16; omega, fun i hi => ?_⟩, rIm_of i7 (gI3 38 (by decide)) (fun a h1 h2 => eI3 a (by omega) (by omega) (by omega) (by omega)), q6, by rw [eI3 76 (by decide) (by omega) (by decide) (by decide)]; exact i9, by rw [eI3 76 (by decide) (by omega) (by decide) (by decide)]; exact i10⟩
    have hi2 : i < w + 1 := hi
    show rRow J3 (536 + 1 + i) S.2.1 (un S.2.2.2.2.1.2 w S.2.2.1 i)
    by_cases zz : i = w
    · subst zz
      rw [un_at]
      exact rRow_of hRw (by rw [f3.1 _ (by omega) (by omega) (by omega) (by omega) (by omega), eJ2 _ (by omega)])
    · rw [un_ne zz]
      exact rRow_of (i6.2.2 i (by omega)) (eI3 _ (by omega) (by omega) (by omega) (by omega))
  have loop : ∀ kf (J : zI) (B : Nat) (c0 : List tok), E J → rz J bs L B none → sk bs L B = B → rq J 0 0 c0 → J 74 29 = nI (rn c0 c0.length) → J 74 8 = nI 0 → 2 * rn c0 c0.length ≤ B → pW bs L (bN S.2.1) (bC S.2.1) (bR S.2.1) kf 0 0 c0.length B ≠ .inl (0, 0) → X = (pbind (pW bs L (bN S.2.1) (bC S.2.1) (bR S.2.1) kf 0 0 c0.length B) fun c A => (.inr (c0 ++ c, A) : PR (List tok))) → zJ l Xi mX13_work d 0 0 72 [some (.ref 74), some (.int (nI L))] [] (J, g) P := by
    intro kf
    induction kf with
    | zero => intro J B c0 _ _ _ _ _ _ _ hn _; exact absurd rfl hn
    | succ kf ih =>
      intro J B c0 e hz2 hB hrq h29 h8 hk2 hn hXX
      have hBL := hz2.2.2.2.1
      have he : pW bs L (bN S.2.1) (bC S.2.1) (bR S.2.1) (kf + 1) 0 0 c0.length B = (if L ≤ B then .inr ([], B) else pbind (pW bs L (bN S.2.1) (bC S.2.1) (bR S.2.1) kf 1 0 c0.length B) fun c A => pbind (pW bs L (bN S.2.1) (bC S.2.1) (bR S.2.1) kf 0 0 (c0.length + c.length) A) fun c' A => .inr (c ++ c', A)) := by
        have h9 : pW bs L (bN S.2.1) (bC S.2.1) (bR S.2.1) (kf + 1) 0 0 c0.length B = (if decide (L ≤ sk bs L B) then .inr ([], sk bs L B) else pbind (pW bs L (bN S.2.1) (bC S.2.1) (bR S.2.1) kf 1 0 c0.length B) fun c A => pbind (pW bs L (bN S.2.1) (bC S.2.1) (bR S.2.1) kf 0 0 (c0.length + c.length) A) fun c' A => .inr (c ++ c', A)) := rfl
        rw [h9, hB]
        by_cases z : L ≤ B
        · rw [decide_eq_true z, if_pos rfl, if_pos z]
        · rw [decide_eq_false z, if_neg (by decide), if_neg z]
      rw [he] at hn hXX
      by_cases z : L ≤ B
      · rw [if_pos z, pbind_inr, List.append_nil] at hXX
        exact good J B c0 e hz2 z hrq h29 (by omega) hXX
      · rw [if_neg z] at hn hXX
        have hn1 : pW bs L (bN S.2.1) (bC S.2.1) (bR S.2.1) kf 1 0 c0.length B ≠ .inl (0, 0) := fun y => hn (by rw [y]; rfl)
        have e0 := e
        rw [hE] at e0
        have hsQ : sQ J (bN S.2.1) (bC S.2.1) (bR S.2.1) 0 (rn c0 c0.length) := ⟨by rw [e0.1 78 (by decide) (by decide)]; exact ⟨hI.2.2.1.2.1.1, hI.2.2.1.2.1.2.1, hI.2.2.1.2.1.2.2.1, hbd.2.1, hbd.2.2.2.1, hN6⟩, h8, h29⟩
        refine zJ_aload_n dX13_work_72 rfl ?_
        refine zP_geti lf_X13_123 (zSt_ob hs 74 13 rfl) rfl dX13_work_73 ?_
        refine zJ_if_ne 101 dX13_work_76 (by decide) (fun c76 => absurd hz2.2.2.2.2.1 c76) (fun _ => ?_)
        refine zJ_aload_n dX13_work_79 rfl ?_
        refine zP_geti lf_X13_116 (zSt_ob hs 74 13 rfl) rfl dX13_work_80 ?_
        refine zJ_aload_n dX13_work_83 rfl ?_
        refine zP_geti lf_X13_113 (zSt_ob hs 74 13 rfl) rfl dX13_work_84 ?_
        rw [hz2.2.2.1, hz2.1]
        refine zJ_icmp_ge 101 dX13_work_87 (by decide) (fun c87 => absurd c87 (nI_ge (by omega) (by omega))) (fun _ => ?_)
        refine zJ_aload_n dX13_work_90 rfl ?_
        refine zP_ecallVv [] _ lv_X13_278 (cm_steps hl hs kf 0 (d - 1) J bs L B c0.length (rn c0 c0.length) (by omega) (by omega) hL2 hz2 hsQ hk2 hn1) (zSt_ob hs 74 13 rfl) rfl (by omega) (Nat.le_of_ble_eq_true rfl) rfl dX13_work_91 (fun J1 h1 => ?_)
        obtain ⟨f1, p1⟩ := h1
        cases hc1 : pW bs L (bN S.2.1) (bC S.2.1) (bR S.2.1) kf 1 0 c0.length B with
        | inl q =>
          rw [hc1] at p1 hXX
          obtain ⟨A1, z1, -⟩ := p1
          refine zJ_aload_n dX13_work_94 rfl ?_
          refine zP_ecallVv [] _ lv_X13_129 (m_blanks (d := d - 1) hl (by omega) hs z1) (zSt_ob hs 74 13 rfl) rfl (by omega) (Nat.le_of_ble_eq_true rfl) rfl dX13_work_95 (fun J2 h2 => ?_)
          refine zJ_goto 72 dX13_work_98 (by decide) ?_
          exact bad J2 _ q (EfS (EfS e f1) (fS_ft (k := 0) h2.1)) h2.2 hXX
        | inr q =>
          obtain ⟨c1, A1⟩ := q
          have pk := pW_ok hc1 hBL
          rw [hc1] at p1 hXX hn
          obtain ⟨z1, g1, g2, g3⟩ := rP_ok p1
          refine zJ_aload_n dX13_work_94 rfl ?_
          refine zP_ecallVv [] _ lv_X13_129 (m_blanks (d := d - 1) hl (by omega) hs z1) (zSt_ob hs 74 13 rfl) rfl (by omega) (Nat.le_of_ble_eq_true rfl) rfl dX13_work_95 (fun J2 h2 => ?_)
          refine zJ_goto 72 dX13_work_98 (by decide) ?_
          obtain ⟨f2, z2⟩ := h2
          have hAL1 := z1.2.2.2.1
          have hsk : A1 ≤ sk bs L A1 := sp_g
          have hrl : rn c1 c1.length ≤ c1.length := rn_le
          have hrr : rn (c0 ++ c1) (c0 ++ c1).length = rn c0 c0.length + rn c1 c1.length := by rw [List.length_append]; exact rn_r
          refine ih J2 (sk bs L A1) (c0 ++ c1) (EfS (EfS e f1) (fS_ft (k := 0) f2)) z2 sk_sk ?_ (by rw [f2.2 29 (by decide) (by decide) (by decide), g2, hrr]) (by rw [f2.2 8 (by decide) (by decide) (by decide)]; exact g3) (by rw [hrr]; omega) ?_ ?_
          · refine rq_app (rq_of hrq (fun a q1 q2 => by rw [f2.1 a (by omega), f1.1 a (by omega) (by omega)])) ?_
            rw [Nat.zero_add, Nat.zero_add]
            exact rq_of g1 (fun a q1 q2 => f2.1 a (by omega))
          · rw [pW_sk0, List.length_append]
            exact fun y => hn (by rw [pbind_inr, y]; rfl)
          · rw [hXX, pW_sk0, List.length_append]
            simp only [pbind_assoc, pbind_inr, List.append_assoc]
  refine zJ_aload_n dX13_work_0 rfl ?_
  refine zJ_iconst (v := nI 0) dX13_work_1 rfl ?_
  refine zP_puti lf_X13_107 (zSt_ob hs 74 13 rfl) rfl dX13_work_2 ?_
  refine zJ_aload_n dX13_work_5 rfl ?_
  refine zJ_iload_n dX13_work_6 rfl ?_
  refine zJ_iconst (v := nI 0) dX13_work_7 rfl ?_
  refine zJ_aload_n dX13_work_8 rfl ?_
  refine zP_geti lf_X13_110 (zSt_ob hs 74 13 rfl) rfl dX13_work_9 ?_
  rw [htp]
  refine zP_callSi [_, _, _] _ ls_X13_141 (k_in (d := d - 1) hl (by omega)) rfl (by omega) (Nat.le_of_ble_eq_true rfl) rfl dX13_work_12 ?_
  rw [in_ok (Nat.zero_le _) hL (by omega)]
  refine zJ_if_eq 25 dX13_work_15 (by decide) (fun c15 => absurd c15 (by decide)) (fun _ => ?_)
  refine zJ_iload_n dX13_work_18 rfl ?_
  refine zJ_sipush (v := nI 150) dX13_work_19 rfl ?_
  refine zJ_icmp_le 29 dX13_work_22 (by decide) (fun _ => ?_) (fun c22 => absurd ((nI_leI (by omega) (by omega)).mpr hL2) c22)
  refine zJ_iconst (v := nI 0) dX13_work_29 rfl ?_
  refine zJ_iconst (v := nI 1) dX13_work_30 rfl ?_
  refine zJ_iconst (v := nI 1) dX13_work_31 rfl ?_
  refine zP_callVi [_, _, _] _ lv_X13_186 (m_badF (d := d - 1) hl (by omega) hs thr_at) (zSt_ob hs 74 13 rfl) rfl (by omega) (Nat.le_of_ble_eq_true rfl) rfl dX13_work_32 ?_
  refine zJ_if_eq 40 dX13_work_35 (by decide) (fun _ => ?_) (fun c35 => absurd rfl c35)
  refine zJ_aload_n dX13_work_40 rfl ?_
  refine zP_geti lf_X13_218 (zSt_ob hs 74 13 rfl) rfl dX13_work_41 ?_
  rw [hwk]
  refine zJ_bipush (v := nI 16) dX13_work_44 rfl ?_
  refine zJ_icmp_ne 62 dX13_work_46 (by decide) (fun _ => ?_) (fun c46 => absurd c46 (fun q => hz (by have := (nI_eq (by omega) (by omega)).mp q; omega)))
  refine zJ_aload_n dX13_work_62 rfl ?_
  refine zJ_iload_n dX13_work_63 rfl ?_
  refine zP_ecallVv [_] _ lv_X13_190 (m_starts (d := d - 1) hl (by omega) hs hI0.1 hL) (zSt_ob hs 74 13 rfl) rfl (by omega) (Nat.le_of_ble_eq_true rfl) rfl dX13_work_64 (fun J1 h1 => ?_)
  refine zJ_aload_n dX13_work_67 rfl ?_
  refine zJ_iconst (v := nI 0) dX13_work_68 rfl ?_
  refine zP_puti lf_X13_272 (zSt_ob hs 74 13 rfl) rfl dX13_work_69 ?_
  obtain ⟨a1, a2, a3, a4, a5⟩ := h1
  rw [hbs] at a2
  obtain ⟨K, hK⟩ : ∃ K, zup J1 74 29 (nI 0) = K := ⟨_, rfl⟩
  rw [hK]
  have eK : ∀ a, a ≠ 74 → K a = J1 a := fun a q => by rw [← hK, zup_row q]
  have fK : ∀ k, k ≠ 29 → K 74 k = J1 74 k := fun k q => by rw [← hK, zup_same, upd_ne q]
  have hne : pW bs L (bN S.2.1) (bC S.2.1) (bR S.2.1) 400 0 0 0 0 ≠ .inl (0, 0) := pW_fuel (Nat.zero_le _) (by simp; omega)
  refine loop 400 K (sk bs L 0) [] ?_ (rz_of a2 (fun k hk => fK k (by omega)) (eK 75 (by decide))) sk_sk (fun i hi => absurd hi (Nat.not_lt_zero _)) (by rw [← hK, zup_same, upd_at]; rfl) ((fK 8 (by decide)).trans a5) (Nat.zero_le _) (by rw [pW_sk0]; exact hne) ?_
  · rw [hE]
    exact ⟨fun a q1 q2 => by rw [eK a q1, a1.1 a q1, zup_row q1], fun k q0 q1 q2 q4 q5 q6 q7 q8 q9 => by rw [fK k q9, a1.2 k q1 q2 q4 q5 q6 q7 q8, thr_ne q0], by rw [fK 0 (by decide), a1.2 0 (by decide) (by decide) (by decide) (by decide) (by decide) (by decide) (by decide)]; exact thr_at, by rw [fK 1 (by decide)]; exact a3⟩
  · rw [pW_sk0, ← hX]
    show _ = pbind (pW bs L (bN S.2.1) (bC S.2.1) (bR S.2.1) 400 0 0 0 0) fun c A => .inr ([] ++ c, A)
    cases pW bs L (bN S.2.1) (bC S.2.1) (bR S.2.1) 400 0 0 0 0 with
    | inl q => rfl
    | inr q => rfl
end ZRefAT
