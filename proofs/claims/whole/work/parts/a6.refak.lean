/-! ===== the reference: rows laid ===== -/
section ZRefAK
variable {l : Launch} {Xi : zXi} {d : Nat} {I : zI} {g : zG}
theorem m_laysLine (hl : l.stackTraces = false) (hd : 1 ≤ d) (hs : zSt g) {w : Nat} (hw : w ≤ 8) : zEv l Xi mX13_lays d [.ref 441, .ref 432, .int (nI w)] I g (fun J => (∀ a, (a < 432 + 1 ∨ 432 + 8 < a) → J a = I a) ∧ ∀ k j, k < w → j < 2 → J (432 + 1 + k) j = I (441 + 1 + k) j) := by
  refine zC_of hl rfl rfl rfl (Nat.le_of_ble_eq_true rfl) (zav_r (zSt_g441 hs).1 (zav_r (zSt_g432 hs).1 (zav_i zav_0))) ?_
  obtain ⟨P, hP⟩ : ∃ P : zR → zH → Prop, P = (fun r' h' => r' = .inl none ∧ ∃ J, h' = (J, g) ∧ (∀ a, (a < 432 + 1 ∨ 432 + 8 < a) → J a = I a) ∧ ∀ k j, k < w → j < 2 → J (432 + 1 + k) j = I (441 + 1 + k) j) := ⟨_, rfl⟩
  have outer : ∀ m k (J : zI), k + m = w → (∀ a, (a < 432 + 1 ∨ 432 + 8 < a) → J a = I a) → (∀ i j, i < k → j < 2 → J (432 + 1 + i) j = I (441 + 1 + i) j) → zJ l Xi mX13_lays d 0 0 2 [some (.ref 441), some (.ref 432), some (.int (nI w)), some (.int (nI k)), none] [] (J, g) P := by
    intro m
    induction m with
    | zero =>
      intro k J hk e c
      obtain rfl : k = w := by omega
      rw [hP]
      refine zJ_iload_n dX13_lays_2 rfl ?_
      refine zJ_iload_n dX13_lays_3 rfl ?_
      refine zJ_icmp_ge 43 dX13_lays_4 (by decide) (fun _ => ?_) (fun c4 => absurd (nI_le (by omega) (by omega)) c4)
      refine zJ_vret rfl dX13_lays_43 ?_
      exact ⟨rfl, J, rfl, e, c⟩
    | succ m ih =>
      intro k J hk e c
      have inner : ∀ m2 j (J : zI), j + m2 = 2 → (∀ a, (a < 432 + 1 ∨ 432 + 8 < a) → J a = I a) → (∀ i j, i < k → j < 2 → J (432 + 1 + i) j = I (441 + 1 + i) j) → (∀ i, i < j → J (432 + 1 + k) i = I (441 + 1 + k) i) → zJ l Xi mX13_lays d 0 0 10 [some (.ref 441), some (.ref 432), some (.int (nI w)), some (.int (nI k)), some (.int (nI j))] [] (J, g) P := by
        intro m2
        induction m2 with
        | zero =>
          intro j J hj e c c2
          obtain rfl : j = 2 := by omega
          refine zJ_iload dX13_lays_10 rfl ?_
          refine zJ_aload_n dX13_lays_12 rfl ?_
          refine zJ_iload_n dX13_lays_13 rfl ?_
          refine zP_rowK (k := k) (zSt_g432 hs) (by omega) (by decide) dX13_lays_14 ?_
          refine zP_alen (zGr_ar (zSt_g432 hs) (i := k) (by omega)) dX13_lays_15 ?_
          refine zJ_icmp_ge 37 dX13_lays_16 (by decide) (fun _ => ?_) (fun c16 => absurd (nI_le (by omega) (by omega)) c16)
          refine zJ_iinc1 dX13_lays_37 rfl (by decide) ?_
          refine zJ_goto 2 dX13_lays_40 (by decide) ?_
          refine zJ_back (zle_r (zle_r (zle_r (zle_r (zle_n zle_0))))) rfl (ih (k + 1) J (by omega) e (fun i j hi hj => ?_))
          by_cases z : i = k
          · rw [z]; exact c2 j hj
          · exact c i j (by omega) hj
        | succ m2 ih2 =>
          intro j J hj e c c2
          refine zJ_iload dX13_lays_10 rfl ?_
          refine zJ_aload_n dX13_lays_12 rfl ?_
          refine zJ_iload_n dX13_lays_13 rfl ?_
          refine zP_rowK (k := k) (zSt_g432 hs) (by omega) (by decide) dX13_lays_14 ?_
          refine zP_alen (zGr_ar (zSt_g432 hs) (i := k) (by omega)) dX13_lays_15 ?_
          refine zJ_icmp_ge 37 dX13_lays_16 (by decide) (fun c16 => absurd c16 (nI_ge (by omega) (by omega))) (fun _ => ?_)
          refine zJ_aload_n dX13_lays_19 rfl ?_
          refine zJ_iload_n dX13_lays_20 rfl ?_
          refine zP_rowK (k := k) (zSt_g432 hs) (by omega) (by decide) dX13_lays_21 ?_
          refine zJ_iload dX13_lays_22 rfl ?_
          refine zJ_aload_n dX13_lays_24 rfl ?_
          refine zJ_iload_n dX13_lays_25 rfl ?_
          refine zP_rowK (k := k) (zSt_g441 hs) (by omega) (by decide) dX13_lays_26 ?_
          refine zJ_iload dX13_lays_27 rfl ?_
          refine zP_iald (zGr_ar (zSt_g441 hs) (i := k) (by omega)) (by first | assumption | with_reducible exact vp_in_nI (by omega) (by omega) | (simp (disch := omega) only [nI_add, pk_mul, pk_sub, pk_div, pk_rem, nI_clamp]; with_reducible exact vp_in_nI (by omega) (by omega))) dX13_lays_29 ?_
          refine zP_iast (zGr_ar (zSt_g432 hs) (i := k) (by omega)) (by first | assumption | with_reducible exact vp_in_nI (by omega) (by omega) | (simp (disch := omega) only [nI_add, pk_mul, pk_sub, pk_div, pk_rem, nI_clamp]; with_reducible exact vp_in_nI (by omega) (by omega))) dX13_lays_30 ?_
          refine zJ_iinc1 dX13_lays_31 rfl (by decide) ?_
          refine zJ_goto 10 dX13_lays_34 (by decide) ?_
          rw [nI_clamp (by omega), e (441 + 1 + k) (by omega)]
          refine zJ_back (zle_r (zle_r (zle_r (zle_r (zle_r zle_0))))) rfl (ih2 (j + 1) _ (by omega) (fun a q => by rw [zup_row (by omega)]; exact e a q) (fun i j hi hj => by rw [zup_row (by omega)]; exact c i j hi hj) (fun i hi => ?_))
          rw [zup_same]
          by_cases z : i = j
          · rw [z, upd_at]
          · rw [upd_ne z]; exact c2 i (by omega)
      refine zJ_iload_n dX13_lays_2 rfl ?_
      refine zJ_iload_n dX13_lays_3 rfl ?_
      refine zJ_icmp_ge 43 dX13_lays_4 (by decide) (fun c4 => absurd c4 (nI_ge (by omega) (by omega))) (fun _ => ?_)
      refine zJ_iconst (v := nI 0) dX13_lays_7 rfl ?_
      refine zJ_istore dX13_lays_8 (Nat.le_of_ble_eq_true rfl) (by decide) ?_
      exact zJ_back (zle_r (zle_r (zle_r (zle_r (zle_r zle_0))))) rfl (inner 2 0 J (by omega) e c (fun i hi => absurd hi (Nat.not_lt_zero _)))
  rw [← hP]
  refine zJ_iconst (v := nI 0) dX13_lays_0 rfl ?_
  refine zJ_istore_m 3 dX13_lays_1 rfl (Nat.le_of_ble_eq_true rfl) (by decide) ?_
  exact zJ_back (zle_r (zle_r (zle_r (zle_r (zle_n zle_0))))) rfl (outer w 0 I (by omega) (fun _ _ => rfl) (fun i j hi => absurd hi (Nat.not_lt_zero _)))
theorem m_laysLaw (hl : l.stackTraces = false) (hd : 1 ≤ d) (hs : zSt g) {w : Nat} (hw : w ≤ 160) : zEv l Xi mX13_lays d [.ref 271, .ref 110, .int (nI w)] I g (fun J => (∀ a, (a < 110 + 1 ∨ 110 + 160 < a) → J a = I a) ∧ ∀ k j, k < w → j < 2 → J (110 + 1 + k) j = I (271 + 1 + k) j) := by
  refine zC_of hl rfl rfl rfl (Nat.le_of_ble_eq_true rfl) (zav_r (zSt_g271 hs).1 (zav_r (zSt_g110 hs).1 (zav_i zav_0))) ?_
  obtain ⟨P, hP⟩ : ∃ P : zR → zH → Prop, P = (fun r' h' => r' = .inl none ∧ ∃ J, h' = (J, g) ∧ (∀ a, (a < 110 + 1 ∨ 110 + 160 < a) → J a = I a) ∧ ∀ k j, k < w → j < 2 → J (110 + 1 + k) j = I (271 + 1 + k) j) := ⟨_, rfl⟩
  have outer : ∀ m k (J : zI), k + m = w → (∀ a, (a < 110 + 1 ∨ 110 + 160 < a) → J a = I a) → (∀ i j, i < k → j < 2 → J (110 + 1 + i) j = I (271 + 1 + i) j) → zJ l Xi mX13_lays d 0 0 2 [some (.ref 271), some (.ref 110), some (.int (nI w)), some (.int (nI k)), none] [] (J, g) P := by
    intro m
    induction m with
    | zero =>
      intro k J hk e c
      obtain rfl : k = w := by omega
      rw [hP]
      refine zJ_iload_n dX13_lays_2 rfl ?_
      refine zJ_iload_n dX13_lays_3 rfl ?_
      refine zJ_icmp_ge 43 dX13_lays_4 (by decide) (fun _ => ?_) (fun c4 => absurd (nI_le (by omega) (by omega)) c4)
      refine zJ_vret rfl dX13_lays_43 ?_
      exact ⟨rfl, J, rfl, e, c⟩
    | succ m ih =>
      intro k J hk e c
      have inner : ∀ m2 j (J : zI), j + m2 = 2 → (∀ a, (a < 110 + 1 ∨ 110 + 160 < a) → J a = I a) → (∀ i j, i < k → j < 2 → J (110 + 1 + i) j = I (271 + 1 + i) j) → (∀ i, i < j → J (110 + 1 + k) i = I (271 + 1 + k) i) → zJ l Xi mX13_lays d 0 0 10 [some (.ref 271), some (.ref 110), some (.int (nI w)), some (.int (nI k)), some (.int (nI j))] [] (J, g) P := by
        intro m2
        induction m2 with
        | zero =>
          intro j J hj e c c2
          obtain rfl : j = 2 := by omega
          refine zJ_iload dX13_lays_10 rfl ?_
          refine zJ_aload_n dX13_lays_12 rfl ?_
          refine zJ_iload_n dX13_lays_13 rfl ?_
          refine zP_rowK (k := k) (zSt_g110 hs) (by omega) (by decide) dX13_lays_14 ?_
          refine zP_alen (zGr_ar (zSt_g110 hs) (i := k) (by omega)) dX13_lays_15 ?_
          refine zJ_icmp_ge 37 dX13_lays_16 (by decide) (fun _ => ?_) (fun c16 => absurd (nI_le (by omega) (by omega)) c16)
          refine zJ_iinc1 dX13_lays_37 rfl (by decide) ?_
          refine zJ_goto 2 dX13_lays_40 (by decide) ?_
          refine zJ_back (zle_r (zle_r (zle_r (zle_r (zle_n zle_0))))) rfl (ih (k + 1) J (by omega) e (fun i j hi hj => ?_))
          by_cases z : i = k
          · rw [z]; exact c2 j hj
          · exact c i j (by omega) hj
        | succ m2 ih2 =>
          intro j J hj e c c2
          refine zJ_iload dX13_lays_10 rfl ?_
          refine zJ_aload_n dX13_lays_12 rfl ?_
          refine zJ_iload_n dX13_lays_13 rfl ?_
          refine zP_rowK (k := k) (zSt_g110 hs) (by omega) (by decide) dX13_lays_14 ?_
          refine zP_alen (zGr_ar (zSt_g110 hs) (i := k) (by omega)) dX13_lays_15 ?_
          refine zJ_icmp_ge 37 dX13_lays_16 (by decide) (fun c16 => absurd c16 (nI_ge (by omega) (by omega))) (fun _ => ?_)
          refine zJ_aload_n dX13_lays_19 rfl ?_
          refine zJ_iload_n dX13_lays_20 rfl ?_
          refine zP_rowK (k := k) (zSt_g110 hs) (by omega) (by decide) dX13_lays_21 ?_
          refine zJ_iload dX13_lays_22 rfl ?_
          refine zJ_aload_n dX13_lays_24 rfl ?_
          refine zJ_iload_n dX13_lays_25 rfl ?_
          refine zP_rowK (k := k) (zSt_g271 hs) (by omega) (by decide) dX13_lays_26 ?_
          refine zJ_iload dX13_lays_27 rfl ?_
          refine zP_iald (zGr_ar (zSt_g271 hs) (i := k) (by omega)) (by first | assumption | with_reducible exact vp_in_nI (by omega) (by omega) | (simp (disch := omega) only [nI_add, pk_mul, pk_sub, pk_div, pk_rem, nI_clamp]; with_reducible exact vp_in_nI (by omega) (by omega))) dX13_lays_29 ?_
          refine zP_iast (zGr_ar (zSt_g110 hs) (i := k) (by omega)) (by first | assumption | with_reducible exact vp_in_nI (by omega) (by omega) | (simp (disch := omega) only [nI_add, pk_mul, pk_sub, pk_div, pk_rem, nI_clamp]; with_reducible exact vp_in_nI (by omega) (by omega))) dX13_lays_30 ?_
          refine zJ_iinc1 dX13_lays_31 rfl (by decide) ?_
          refine zJ_goto 10 dX13_lays_34 (by decide) ?_
          rw [nI_clamp (by omega), e (271 + 1 + k) (by omega)]
          refine zJ_back (zle_r (zle_r (zle_r (zle_r (zle_r zle_0))))) rfl (ih2 (j + 1) _ (by omega) (fun a q => by rw [zup_row (by omega)]; exact e a q) (fun i j hi hj => by rw [zup_row (by omega)]; exact c i j hi hj) (fun i hi => ?_))
          rw [zup_same]
          by_cases z : i = j
          · rw [z, upd_at]
          · rw [upd_ne z]; exact c2 i (by omega)
      refine zJ_iload_n dX13_lays_2 rfl ?_
      refine zJ_iload_n dX13_lays_3 rfl ?_
      refine zJ_icmp_ge 43 dX13_lays_4 (by decide) (fun c4 => absurd c4 (nI_ge (by omega) (by omega))) (fun _ => ?_)
      refine zJ_iconst (v := nI 0) dX13_lays_7 rfl ?_
      refine zJ_istore dX13_lays_8 (Nat.le_of_ble_eq_true rfl) (by decide) ?_
      exact zJ_back (zle_r (zle_r (zle_r (zle_r (zle_r zle_0))))) rfl (inner 2 0 J (by omega) e c (fun i hi => absurd hi (Nat.not_lt_zero _)))
  rw [← hP]
  refine zJ_iconst (v := nI 0) dX13_lays_0 rfl ?_
  refine zJ_istore_m 3 dX13_lays_1 rfl (Nat.le_of_ble_eq_true rfl) (by decide) ?_
  exact zJ_back (zle_r (zle_r (zle_r (zle_r (zle_n zle_0))))) rfl (outer w 0 I (by omega) (fun _ _ => rfl) (fun i j hi => absurd hi (Nat.not_lt_zero _)))
end ZRefAK
