/-! ===== the reference: what is told of a row ===== -/
section ZRefJ
variable {l : Launch} {Xi : zXi} {d : Nat} {I : zI} {g : zG}
theorem m_joinedOnes (hl : l.stackTraces = false) (hd : 4 ≤ d) (hs : zSt g) {b : zWo} {R : rwT} (hB : rB I b) {a : Nat} (ha : zAr g a 519) (hR : rRow I a b R) : zD l Xi mX13_joinedOnes d [.ref 74, .ref a] I g (some (.int (sJoin b R))) I := by
  refine zC_of hl rfl rfl rfl (Nat.le_of_ble_eq_true rfl) (zav_r (zSt_ob hs 74 13 rfl).1 (zav_r ha.1 zav_0)) ?_
  have hN6 := hB.1.2.2.2.2.1
  have hN : I 78 (nI 2).toNatClampNeg = nI (bN b) := by rw [nI_clamp (by omega)]; exact hB.2.1.2.2.1
  unfold sJoin
  have loop : ∀ m p, p + m = bN b → zJ l Xi mX13_joinedOnes d 0 0 4 [some (.ref 74), some (.ref a), some (.int (bitF (jnd R (bpc b) (bpn b)) p)), some (.int (nI p))] [] (I, g) (fun r' h' => r' = .inl (some (.int (bitF (jnd R (bpc b) (bpn b)) (bN b)))) ∧ h' = (I, g)) := by
    intro m
    induction m with
    | zero =>
      intro p hp
      obtain rfl : p = bN b := by omega
      refine zJ_iload_n dX13_joinedOnes_4 rfl ?_
      refine zJ_aload_n dX13_joinedOnes_5 rfl ?_
      refine zP_getr lf_X13_23 (zSt_ob hs 74 13 rfl) rfl (zSt_rf hs 74 12 78 rfl) dX13_joinedOnes_6 ?_
      refine zJ_iconst (v := nI 2) dX13_joinedOnes_9 rfl ?_
      refine zP_iald (zSt_ar hs 78 4 rfl) (by first | assumption | with_reducible exact vp_in_nI (by omega) (by omega) | (simp (disch := omega) only [nI_add, pk_mul, pk_sub, pk_div, pk_rem, nI_clamp]; with_reducible exact vp_in_nI (by omega) (by omega))) dX13_joinedOnes_10 ?_
      refine zJ_icmp_ge 39 dX13_joinedOnes_11 (by decide) (fun _ => ?_) (fun c11 => absurd (by rw [hN]; exact nI_le (by omega) (by omega)) c11)
      refine zJ_iload_n dX13_joinedOnes_39 rfl ?_
      refine zJ_iret rfl dX13_joinedOnes_40 ?_
      exact ⟨rfl, rfl⟩
    | succ m ih =>
      intro p hp
      refine zJ_iload_n dX13_joinedOnes_4 rfl ?_
      refine zJ_aload_n dX13_joinedOnes_5 rfl ?_
      refine zP_getr lf_X13_23 (zSt_ob hs 74 13 rfl) rfl (zSt_rf hs 74 12 78 rfl) dX13_joinedOnes_6 ?_
      refine zJ_iconst (v := nI 2) dX13_joinedOnes_9 rfl ?_
      refine zP_iald (zSt_ar hs 78 4 rfl) (by first | assumption | with_reducible exact vp_in_nI (by omega) (by omega) | (simp (disch := omega) only [nI_add, pk_mul, pk_sub, pk_div, pk_rem, nI_clamp]; with_reducible exact vp_in_nI (by omega) (by omega))) dX13_joinedOnes_10 ?_
      refine zJ_icmp_ge 39 dX13_joinedOnes_11 (by decide) (fun c11 => absurd c11 (by rw [hN]; exact nI_ge (by omega) (by omega))) (fun _ => ?_)
      refine zJ_iload_n dX13_joinedOnes_14 rfl ?_
      refine zJ_aload_n dX13_joinedOnes_15 rfl ?_
      refine zJ_aload_n dX13_joinedOnes_16 rfl ?_
      refine zJ_iload_n dX13_joinedOnes_17 rfl ?_
      refine zP_callVi [_, _] _ lv_X13_312 (m_isJoined (d := d - 1) hl (by omega) hs hB ha hR (by omega)) (zSt_ob hs 74 13 rfl) rfl (by omega) (Nat.le_of_ble_eq_true rfl) rfl dX13_joinedOnes_18 ?_
      refine zJ_if_eq 30 dX13_joinedOnes_21 (by decide) (fun c21 => ?_) (fun c21 => ?_)
      · replace c21 := zb0.mp c21
        refine zJ_iconst (v := nI 0) dX13_joinedOnes_30 rfl ?_
        refine zJ_ior dX13_joinedOnes_31 ?_
        refine zJ_istore_m 2 dX13_joinedOnes_32 rfl (Nat.le_of_ble_eq_true rfl) (by decide) ?_
        refine zJ_iinc1 dX13_joinedOnes_33 rfl (by decide) ?_
        refine zJ_goto 4 dX13_joinedOnes_36 (by decide) ?_
        refine zJ_eq ?_ rfl rfl (ih (p + 1) (by omega))
        simp [bitF, lp, c21, nI0]
      · replace c21 := zb1.mp c21
        refine zJ_iconst (v := nI 1) dX13_joinedOnes_24 rfl ?_
        refine zJ_iload_n dX13_joinedOnes_25 rfl ?_
        refine zJ_ishl dX13_joinedOnes_26 ?_
        refine zJ_goto 31 dX13_joinedOnes_27 (by decide) ?_
        refine zJ_ior dX13_joinedOnes_31 ?_
        refine zJ_istore_m 2 dX13_joinedOnes_32 rfl (Nat.le_of_ble_eq_true rfl) (by decide) ?_
        refine zJ_iinc1 dX13_joinedOnes_33 rfl (by decide) ?_
        refine zJ_goto 4 dX13_joinedOnes_36 (by decide) ?_
        refine zJ_eq ?_ rfl rfl (ih (p + 1) (by omega))
        simp [bitF, lp, c21, nI0]
  refine zJ_iconst (v := nI 0) dX13_joinedOnes_0 rfl ?_
  refine zJ_istore_m 2 dX13_joinedOnes_1 rfl (Nat.le_of_ble_eq_true rfl) (by decide) ?_
  refine zJ_iconst (v := nI 0) dX13_joinedOnes_2 rfl ?_
  refine zJ_istore_m 3 dX13_joinedOnes_3 rfl (Nat.le_of_ble_eq_true rfl) (by decide) ?_
  exact loop (bN b) 0 (by omega)
theorem m_overs (hl : l.stackTraces = false) (hd : 5 ≤ d) (hs : zSt g) {b : zWo} {R : rwT} (hB : rB I b) {a : Nat} (ha : zAr g a 519) (hR : rRow I a b R) (hok : okR b R) : zD l Xi mX13_overs d [.ref 74, .ref a] I g (some (.int (sOver b R))) I := by
  refine zC_of hl rfl rfl rfl (Nat.le_of_ble_eq_true rfl) (zav_r (zSt_ob hs 74 13 rfl).1 (zav_r ha.1 zav_0)) ?_
  unfold sOver
  have loop : ∀ m p, p + m = 64 → zJ l Xi mX13_overs d 0 0 4 [some (.ref 74), some (.ref a), some (.int (cntF (ovQ b R) p)), some (.int (nI p))] [] (I, g) (fun r' h' => r' = .inl (some (.int (cntF (ovQ b R) 64))) ∧ h' = (I, g)) := by
    intro m
    induction m with
    | zero =>
      intro p hp
      obtain rfl : p = 64 := by omega
      refine zJ_iload_n dX13_overs_4 rfl ?_
      refine zJ_bipush (v := nI 64) dX13_overs_5 rfl ?_
      refine zJ_icmp_ge 33 dX13_overs_7 (by decide) (fun _ => ?_) (fun c7 => absurd (nI_le (by omega) (by omega)) c7)
      refine zJ_iload_n dX13_overs_33 rfl ?_
      refine zJ_iret rfl dX13_overs_34 ?_
      exact ⟨rfl, rfl⟩
    | succ m ih =>
      intro p hp
      have hov : ovN b R p ≤ 6 := ov_le
      refine zJ_iload_n dX13_overs_4 rfl ?_
      refine zJ_bipush (v := nI 64) dX13_overs_5 rfl ?_
      refine zJ_icmp_ge 33 dX13_overs_7 (by decide) (fun c7 => absurd c7 (nI_ge (by omega) (by omega))) (fun _ => ?_)
      refine zJ_iload_n dX13_overs_10 rfl ?_
      refine zJ_aload_n dX13_overs_11 rfl ?_
      refine zJ_aload_n dX13_overs_12 rfl ?_
      refine zJ_iload_n dX13_overs_13 rfl ?_
      refine zP_callVi [_, _] _ lv_X13_335 (k_over (d := d - 1) hl (by omega) hs hB ha hR hok (by omega)) (zSt_ob hs 74 13 rfl) rfl (by omega) (Nat.le_of_ble_eq_true rfl) rfl dX13_overs_14 ?_
      refine zJ_if_le 24 dX13_overs_17 (by decide) (fun c17 => ?_) (fun c17 => ?_)
      · skip
        refine zJ_iconst (v := nI 0) dX13_overs_24 rfl ?_
        refine zJ_iadd dX13_overs_25 ?_
        refine zJ_istore_m 2 dX13_overs_26 rfl (Nat.le_of_ble_eq_true rfl) (by decide) ?_
        refine zJ_iinc1 dX13_overs_27 rfl (by decide) ?_
        refine zJ_goto 4 dX13_overs_30 (by decide) ?_
        rw [nI_le0 (by omega)] at c17
        refine zJ_eq ?_ rfl rfl (ih (p + 1) (by omega))
        simp [cntF, lp, ovQ, c17, nI0]
      · skip
        refine zJ_iconst (v := nI 1) dX13_overs_20 rfl ?_
        refine zJ_goto 25 dX13_overs_21 (by decide) ?_
        refine zJ_iadd dX13_overs_25 ?_
        refine zJ_istore_m 2 dX13_overs_26 rfl (Nat.le_of_ble_eq_true rfl) (by decide) ?_
        refine zJ_iinc1 dX13_overs_27 rfl (by decide) ?_
        refine zJ_goto 4 dX13_overs_30 (by decide) ?_
        rw [nI_le0 (by omega)] at c17
        refine zJ_eq ?_ rfl rfl (ih (p + 1) (by omega))
        simp [cntF, lp, ovQ, show 0 < ovN b R p by omega, nI1]
  refine zJ_iconst (v := nI 0) dX13_overs_0 rfl ?_
  refine zJ_istore_m 2 dX13_overs_1 rfl (Nat.le_of_ble_eq_true rfl) (by decide) ?_
  refine zJ_iconst (v := nI 0) dX13_overs_2 rfl ?_
  refine zJ_istore_m 3 dX13_overs_3 rfl (Nat.le_of_ble_eq_true rfl) (by decide) ?_
  exact loop 64 0 (by omega)
theorem m_isDone (hl : l.stackTraces = false) (hd : 6 ≤ d) (hs : zSt g) {b : zWo} {R : rwT} (hB : rB I b) {a : Nat} (ha : zAr g a 519) (hR : rRow I a b R) (hok : okR b R) : zD l Xi mX13_isDone d [.ref 74, .ref a] I g (some (.int (if sDone b R then 1 else 0))) I := by
  refine zC_of hl rfl rfl rfl (Nat.le_of_ble_eq_true rfl) (zav_r (zSt_ob hs 74 13 rfl).1 (zav_r ha.1 zav_0)) ?_
  have hN : I 78 (nI 2).toNatClampNeg = nI (bN b) := by rw [nI_clamp (by omega)]; exact hB.2.1.2.2.1
  refine zJ_aload_n dX13_isDone_0 rfl ?_
  refine zJ_aload_n dX13_isDone_1 rfl ?_
  refine zP_callVi [_] _ lv_X13_383 (m_joinedOnes (d := d - 1) hl (by omega) hs hB ha hR) (zSt_ob hs 74 13 rfl) rfl (by omega) (Nat.le_of_ble_eq_true rfl) rfl dX13_isDone_2 ?_
  refine zJ_iconst (v := nI 1) dX13_isDone_5 rfl ?_
  refine zJ_aload_n dX13_isDone_6 rfl ?_
  refine zP_getr lf_X13_23 (zSt_ob hs 74 13 rfl) rfl (zSt_rf hs 74 12 78 rfl) dX13_isDone_7 ?_
  refine zJ_iconst (v := nI 2) dX13_isDone_10 rfl ?_
  refine zP_iald (zSt_ar hs 78 4 rfl) (by first | assumption | with_reducible exact vp_in_nI (by omega) (by omega) | (simp (disch := omega) only [nI_add, pk_mul, pk_sub, pk_div, pk_rem, nI_clamp]; with_reducible exact vp_in_nI (by omega) (by omega))) dX13_isDone_11 ?_
  rw [hN]
  refine zJ_ishl dX13_isDone_12 ?_
  refine zJ_iconst (v := nI 1) dX13_isDone_13 rfl ?_
  refine zJ_isub dX13_isDone_14 ?_
  refine zJ_icmp_ne 30 dX13_isDone_15 (by decide) (fun c15 => ?_) (fun c15 => ?_)
  · skip
    refine zJ_iconst (v := nI 0) dX13_isDone_30 rfl ?_
    refine zJ_zret rfl (by decide) dX13_isDone_31 ?_
    exact ⟨by simp [sDone, c15, nI0], rfl⟩
  · skip
    refine zJ_aload_n dX13_isDone_18 rfl ?_
    refine zJ_aload_n dX13_isDone_19 rfl ?_
    refine zP_callVi [_] _ lv_X13_387 (m_overs (d := d - 1) hl (by omega) hs hB ha hR hok) (zSt_ob hs 74 13 rfl) rfl (by omega) (Nat.le_of_ble_eq_true rfl) rfl dX13_isDone_20 ?_
    refine zJ_if_ne 30 dX13_isDone_23 (by decide) (fun c23 => ?_) (fun c23 => ?_)
    · skip
      refine zJ_iconst (v := nI 0) dX13_isDone_30 rfl ?_
      refine zJ_zret rfl (by decide) dX13_isDone_31 ?_
      exact ⟨by simp [sDone, c23, nI0], rfl⟩
    · skip
      refine zJ_iconst (v := nI 1) dX13_isDone_26 rfl ?_
      refine zJ_goto 31 dX13_isDone_27 (by decide) ?_
      refine zJ_zret rfl (by decide) dX13_isDone_31 ?_
      exact ⟨by simp [sDone, c15, c23, nI1], rfl⟩
theorem maxI_nn {f : Nat → Int32} : ∀ {n : Nat}, (0 : Int32) ≤ maxI f n
  | 0 => by show (0 : Int32) ≤ 0; decide
  | n + 1 => by
    rw [maxI_succ]
    have ih := maxI_nn (f := f) (n := n)
    split
    · exact ih
    · next h => exact Int32.le_trans ih (Int32.le_of_lt (Int32.not_le.mp h))
theorem mor_max {f : Nat → Int32} {p : Nat} : morI (maxI f p) (f p) = maxI f (p + 1) := by
  rw [maxI_succ]
  unfold morI
  by_cases z1 : f p ≤ maxI f p
  · rw [if_pos z1]
    by_cases z2 : maxI f p ≤ f p
    · rw [if_pos z2]; exact Int32.le_antisymm z1 z2
    · rw [if_neg z2]
  · rw [if_neg z1, if_pos (Int32.le_of_lt (Int32.not_le.mp z1))]
theorem st_out {b : zWo} {R : rwT} {n p : Nat} (h : tin R n p = false) : stM b R n p = 0 := by
  have e : parM b R n p = none := by unfold parM; rw [if_pos (Or.inl (Classical.not_not.mp (of_decide_eq_false h)))]
  unfold stM; rw [e, stpM_none]
theorem m_delay (hl : l.stackTraces = false) (hd : 5 ≤ d) (hs : zSt g) {b : zWo} {R : rwT} (hB : rB I b) {a n : Nat} (ha : zAr g a 519) (hR : rRow I a b R) (hok : okR b R) (hn : n < bN b) : zD l Xi mX13_delay d [.ref 74, .ref a, .int (nI n)] I g (some (.int (sDel b R n))) I := by
  refine zC_of hl rfl rfl rfl (Nat.le_of_ble_eq_true rfl) (zav_r (zSt_ob hs 74 13 rfl).1 (zav_r ha.1 (zav_i zav_0))) ?_
  have hN6 := hB.1.2.2.2.2.1
  have h4 := hB.1.2.2.2.2.2.1 n (by omega)
  have hc : I (89 + 1 + n) (nI 2).toNatClampNeg = nI (bpc b n) := by rw [nI_clamp (by omega)]; exact (hB.2.2.2.1 n hn).2
  unfold sDel
  have loop : ∀ m p, p + m = bpc b n → zJ l Xi mX13_delay d 0 0 5 [some (.ref 74), some (.ref a), some (.int (nI n)), some (.int (maxI (fun i => nI (stM b R n (bpn b n i))) p)), some (.int (nI p))] [] (I, g) (fun r' h' => r' = .inl (some (.int (maxI (fun i => nI (stM b R n (bpn b n i))) (bpc b n)))) ∧ h' = (I, g)) := by
    intro m
    induction m with
    | zero =>
      intro p hp
      obtain rfl : p = bpc b n := by omega
      refine zJ_iload dX13_delay_5 rfl ?_
      refine zJ_aload_n dX13_delay_7 rfl ?_
      refine zP_getr lf_X13_40 (zSt_ob hs 74 13 rfl) rfl (zSt_rf hs 74 17 89 rfl) dX13_delay_8 ?_
      refine zJ_iload_n dX13_delay_11 rfl ?_
      refine zP_rowK (k := n) (zSt_g89 hs) (by omega) (by decide) dX13_delay_12 ?_
      refine zJ_iconst (v := nI 2) dX13_delay_13 rfl ?_
      refine zP_iald (zGr_ar (zSt_g89 hs) (i := n) (by omega)) (by first | assumption | with_reducible exact vp_in_nI (by omega) (by omega) | (simp (disch := omega) only [nI_add, pk_mul, pk_sub, pk_div, pk_rem, nI_clamp]; with_reducible exact vp_in_nI (by omega) (by omega))) dX13_delay_14 ?_
      refine zJ_icmp_ge 65 dX13_delay_15 (by decide) (fun _ => ?_) (fun c15 => absurd (by rw [hc]; exact nI_le (by omega) (by omega)) c15)
      refine zJ_iload_n dX13_delay_65 rfl ?_
      refine zJ_iret rfl dX13_delay_66 ?_
      exact ⟨rfl, rfl⟩
    | succ m ih =>
      intro p hp
      have hpin := hB.2.2.2.2.1 n p hn (by omega)
      have hp64 := (hB.1.2.2.2.2.2.2.1 n p (by omega) (by omega)).1
      have hta : tin (I a) n (bpn b n p) = tin R n (bpn b n p) := r_tin hR (by omega) hp64
      refine zJ_iload dX13_delay_5 rfl ?_
      refine zJ_aload_n dX13_delay_7 rfl ?_
      refine zP_getr lf_X13_40 (zSt_ob hs 74 13 rfl) rfl (zSt_rf hs 74 17 89 rfl) dX13_delay_8 ?_
      refine zJ_iload_n dX13_delay_11 rfl ?_
      refine zP_rowK (k := n) (zSt_g89 hs) (by omega) (by decide) dX13_delay_12 ?_
      refine zJ_iconst (v := nI 2) dX13_delay_13 rfl ?_
      refine zP_iald (zGr_ar (zSt_g89 hs) (i := n) (by omega)) (by first | assumption | with_reducible exact vp_in_nI (by omega) (by omega) | (simp (disch := omega) only [nI_add, pk_mul, pk_sub, pk_div, pk_rem, nI_clamp]; with_reducible exact vp_in_nI (by omega) (by omega))) dX13_delay_14 ?_
      refine zJ_icmp_ge 65 dX13_delay_15 (by decide) (fun c15 => absurd c15 (by rw [hc]; exact nI_ge (by omega) (by omega))) (fun _ => ?_)
      refine zJ_aload_n dX13_delay_18 rfl ?_
      refine zJ_iload_n dX13_delay_19 rfl ?_
      refine zJ_aload_n dX13_delay_20 rfl ?_
      refine zP_getr lf_X13_46 (zSt_ob hs 74 13 rfl) rfl (zSt_rf hs 74 19 103 rfl) dX13_delay_21 ?_
      refine zJ_iload_n dX13_delay_24 rfl ?_
      refine zP_rowK (k := n) (zSt_g103 hs) (by omega) (by decide) dX13_delay_25 ?_
      refine zJ_iload dX13_delay_26 rfl ?_
      refine zP_iald (zGr_ar (zSt_g103 hs) (i := n) (by omega)) (by first | assumption | with_reducible exact vp_in_nI (by omega) (by omega) | (simp (disch := omega) only [nI_add, pk_mul, pk_sub, pk_div, pk_rem, nI_clamp]; with_reducible exact vp_in_nI (by omega) (by omega))) dX13_delay_28 ?_
      rw [nI_clamp (by omega), hpin]
      refine zP_callSi [_, _, _] _ ls_X13_287 (k_isIn (d := d - 1) hl (by omega) ha (by omega) hp64) rfl (by omega) (Nat.le_of_ble_eq_true rfl) rfl dX13_delay_29 ?_
      refine zJ_if_eq 57 dX13_delay_32 (by decide) (fun c32 => ?_) (fun c32 => ?_)
      · replace c32 := zb0.mp c32
        refine zJ_iload_n dX13_delay_57 rfl ?_
        refine zJ_istore_m 3 dX13_delay_58 rfl (Nat.le_of_ble_eq_true rfl) (by decide) ?_
        refine zJ_iinc1 dX13_delay_59 rfl (by decide) ?_
        refine zJ_goto 5 dX13_delay_62 (by decide) ?_
        rw [hta] at c32
        have e : maxI (fun i => nI (stM b R n (bpn b n i))) (p + 1) = maxI (fun i => nI (stM b R n (bpn b n i))) p := by
          rw [maxI_succ, st_out c32]; exact if_pos (show nI 0 ≤ _ from maxI_nn)
        refine zJ_eq ?_ rfl rfl (ih (p + 1) (by omega))
        rw [e]; rfl
      · replace c32 := zb1.mp c32
        refine zJ_iload_n dX13_delay_35 rfl ?_
        refine zJ_aload_n dX13_delay_36 rfl ?_
        refine zJ_aload_n dX13_delay_37 rfl ?_
        refine zJ_iload_n dX13_delay_38 rfl ?_
        refine zJ_aload_n dX13_delay_39 rfl ?_
        refine zP_getr lf_X13_46 (zSt_ob hs 74 13 rfl) rfl (zSt_rf hs 74 19 103 rfl) dX13_delay_40 ?_
        refine zJ_iload_n dX13_delay_43 rfl ?_
        refine zP_rowK (k := n) (zSt_g103 hs) (by omega) (by decide) dX13_delay_44 ?_
        refine zJ_iload dX13_delay_45 rfl ?_
        refine zP_iald (zGr_ar (zSt_g103 hs) (i := n) (by omega)) (by first | assumption | with_reducible exact vp_in_nI (by omega) (by omega) | (simp (disch := omega) only [nI_add, pk_mul, pk_sub, pk_div, pk_rem, nI_clamp]; with_reducible exact vp_in_nI (by omega) (by omega))) dX13_delay_47 ?_
        rw [nI_clamp (by omega), hpin]
        refine zP_callVi [_, _, _] _ lv_X13_390 (m_stepsOf (d := d - 1) hl (by omega) hs hB ha hR hok hn hp64 (hta ▸ c32)) (zSt_ob hs 74 13 rfl) rfl (by omega) (Nat.le_of_ble_eq_true rfl) rfl dX13_delay_48 ?_
        refine zP_callSi [_, _] _ ls_X13_262 (k_more (d := d - 1) hl (by omega)) rfl (by omega) (Nat.le_of_ble_eq_true rfl) rfl dX13_delay_51 ?_
        refine zJ_goto 58 dX13_delay_54 (by decide) ?_
        refine zJ_istore_m 3 dX13_delay_58 rfl (Nat.le_of_ble_eq_true rfl) (by decide) ?_
        refine zJ_iinc1 dX13_delay_59 rfl (by decide) ?_
        refine zJ_goto 5 dX13_delay_62 (by decide) ?_
        refine zJ_eq ?_ rfl rfl (ih (p + 1) (by omega))
        rw [← mor_max]; rfl
  refine zJ_iconst (v := nI 0) dX13_delay_0 rfl ?_
  refine zJ_istore_m 3 dX13_delay_1 rfl (Nat.le_of_ble_eq_true rfl) (by decide) ?_
  refine zJ_iconst (v := nI 0) dX13_delay_2 rfl ?_
  refine zJ_istore dX13_delay_3 (Nat.le_of_ble_eq_true rfl) (by decide) ?_
  exact loop (bpc b n) 0 (by omega)
theorem m_late (hl : l.stackTraces = false) (hd : 6 ≤ d) (hs : zSt g) {b : zWo} {R : rwT} (hB : rB I b) (hR : rRow I 533 b R) (hok : okR b R) : zD l Xi mX13_late d [.ref 74] I g (some (.int (sLate b R))) I := by
  refine zC_of hl rfl rfl rfl (Nat.le_of_ble_eq_true rfl) (zav_r (zSt_ob hs 74 13 rfl).1 zav_0) ?_
  have hN6 := hB.1.2.2.2.2.1
  have hN : I 78 (nI 2).toNatClampNeg = nI (bN b) := by rw [nI_clamp (by omega)]; exact hB.2.1.2.2.1
  unfold sLate
  have loop : ∀ m p, p + m = bN b → zJ l Xi mX13_late d 0 0 4 [some (.ref 74), some (.int (bitF (latQ b R) p)), some (.int (nI p))] [] (I, g) (fun r' h' => r' = .inl (some (.int (bitF (latQ b R) (bN b)))) ∧ h' = (I, g)) := by
    intro m
    induction m with
    | zero =>
      intro p hp
      obtain rfl : p = bN b := by omega
      refine zJ_iload_n dX13_late_4 rfl ?_
      refine zJ_aload_n dX13_late_5 rfl ?_
      refine zP_getr lf_X13_23 (zSt_ob hs 74 13 rfl) rfl (zSt_rf hs 74 12 78 rfl) dX13_late_6 ?_
      refine zJ_iconst (v := nI 2) dX13_late_9 rfl ?_
      refine zP_iald (zSt_ar hs 78 4 rfl) (by first | assumption | with_reducible exact vp_in_nI (by omega) (by omega) | (simp (disch := omega) only [nI_add, pk_mul, pk_sub, pk_div, pk_rem, nI_clamp]; with_reducible exact vp_in_nI (by omega) (by omega))) dX13_late_10 ?_
      refine zJ_icmp_ge 62 dX13_late_11 (by decide) (fun _ => ?_) (fun c11 => absurd (by rw [hN]; exact nI_le (by omega) (by omega)) c11)
      refine zJ_iload_n dX13_late_62 rfl ?_
      refine zJ_iret rfl dX13_late_63 ?_
      exact ⟨rfl, rfl⟩
    | succ m ih =>
      intro p hp
      refine zJ_iload_n dX13_late_4 rfl ?_
      refine zJ_aload_n dX13_late_5 rfl ?_
      refine zP_getr lf_X13_23 (zSt_ob hs 74 13 rfl) rfl (zSt_rf hs 74 12 78 rfl) dX13_late_6 ?_
      refine zJ_iconst (v := nI 2) dX13_late_9 rfl ?_
      refine zP_iald (zSt_ar hs 78 4 rfl) (by first | assumption | with_reducible exact vp_in_nI (by omega) (by omega) | (simp (disch := omega) only [nI_add, pk_mul, pk_sub, pk_div, pk_rem, nI_clamp]; with_reducible exact vp_in_nI (by omega) (by omega))) dX13_late_10 ?_
      refine zJ_icmp_ge 62 dX13_late_11 (by decide) (fun c11 => absurd c11 (by rw [hN]; exact nI_ge (by omega) (by omega))) (fun _ => ?_)
      refine zJ_iload_n dX13_late_14 rfl ?_
      refine zJ_aload_n dX13_late_15 rfl ?_
      refine zJ_aload_n dX13_late_16 rfl ?_
      refine zP_getr lf_X13_70 (zSt_ob hs 74 13 rfl) rfl (zSt_rf hs 74 30 533 rfl) dX13_late_17 ?_
      refine zJ_iload_n dX13_late_20 rfl ?_
      refine zP_callVi [_, _] _ lv_X13_312 (m_isJoined (d := d - 1) hl (by omega) hs hB (zSt_ar hs 533 519 rfl) hR (by omega)) (zSt_ob hs 74 13 rfl) rfl (by omega) (Nat.le_of_ble_eq_true rfl) rfl dX13_late_21 ?_
      refine zJ_if_eq 47 dX13_late_24 (by decide) (fun c24 => ?_) (fun c24 => ?_)
      · replace c24 := zb0.mp c24
        refine zJ_iconst (v := nI 1) dX13_late_47 rfl ?_
        refine zJ_iload_n dX13_late_48 rfl ?_
        refine zJ_ishl dX13_late_49 ?_
        refine zJ_goto 54 dX13_late_50 (by decide) ?_
        refine zJ_ior dX13_late_54 ?_
        refine zJ_istore_m 1 dX13_late_55 rfl (Nat.le_of_ble_eq_true rfl) (by decide) ?_
        refine zJ_iinc1 dX13_late_56 rfl (by decide) ?_
        refine zJ_goto 4 dX13_late_59 (by decide) ?_
        refine zJ_eq ?_ rfl rfl (ih (p + 1) (by omega))
        simp [bitF, lp, latQ, c24]
      · replace c24 := zb1.mp c24
        refine zJ_aload_n dX13_late_27 rfl ?_
        refine zJ_aload_n dX13_late_28 rfl ?_
        refine zP_getr lf_X13_70 (zSt_ob hs 74 13 rfl) rfl (zSt_rf hs 74 30 533 rfl) dX13_late_29 ?_
        refine zJ_iload_n dX13_late_32 rfl ?_
        refine zP_callVi [_, _] _ lv_X13_393 (m_delay (d := d - 1) hl (by omega) hs hB (zSt_ar hs 533 519 rfl) hR hok (by omega)) (zSt_ob hs 74 13 rfl) rfl (by omega) (Nat.le_of_ble_eq_true rfl) rfl dX13_late_33 ?_
        refine zJ_aload_n dX13_late_36 rfl ?_
        refine zP_getr lf_X13_40 (zSt_ob hs 74 13 rfl) rfl (zSt_rf hs 74 17 89 rfl) dX13_late_37 ?_
        refine zJ_iload_n dX13_late_40 rfl ?_
        refine zP_rowK (k := p) (zSt_g89 hs) (by omega) (by decide) dX13_late_41 ?_
        refine zJ_iconst (v := nI 1) dX13_late_42 rfl ?_
        refine zP_iald (zGr_ar (zSt_g89 hs) (i := p) (by omega)) (by first | assumption | with_reducible exact vp_in_nI (by omega) (by omega) | (simp (disch := omega) only [nI_add, pk_mul, pk_sub, pk_div, pk_rem, nI_clamp]; with_reducible exact vp_in_nI (by omega) (by omega))) dX13_late_43 ?_
        rw [nI_clamp (by omega), (hB.2.2.2.1 p (by omega)).1]
        refine zJ_icmp_le 53 dX13_late_44 (by decide) (fun c44 => ?_) (fun c44 => ?_)
        · skip
          refine zJ_iconst (v := nI 0) dX13_late_53 rfl ?_
          refine zJ_ior dX13_late_54 ?_
          refine zJ_istore_m 1 dX13_late_55 rfl (Nat.le_of_ble_eq_true rfl) (by decide) ?_
          refine zJ_iinc1 dX13_late_56 rfl (by decide) ?_
          refine zJ_goto 4 dX13_late_59 (by decide) ?_
          refine zJ_eq ?_ rfl rfl (ih (p + 1) (by omega))
          simp [bitF, lp, latQ, c24, c44, nI0]
        · skip
          refine zJ_iconst (v := nI 1) dX13_late_47 rfl ?_
          refine zJ_iload_n dX13_late_48 rfl ?_
          refine zJ_ishl dX13_late_49 ?_
          refine zJ_goto 54 dX13_late_50 (by decide) ?_
          refine zJ_ior dX13_late_54 ?_
          refine zJ_istore_m 1 dX13_late_55 rfl (Nat.le_of_ble_eq_true rfl) (by decide) ?_
          refine zJ_iinc1 dX13_late_56 rfl (by decide) ?_
          refine zJ_goto 4 dX13_late_59 (by decide) ?_
          refine zJ_eq ?_ rfl rfl (ih (p + 1) (by omega))
          simp [bitF, lp, latQ, c24, c44]
  refine zJ_iconst (v := nI 0) dX13_late_0 rfl ?_
  refine zJ_istore_m 1 dX13_late_1 rfl (Nat.le_of_ble_eq_true rfl) (by decide) ?_
  refine zJ_iconst (v := nI 0) dX13_late_2 rfl ?_
  refine zJ_istore_m 2 dX13_late_3 rfl (Nat.le_of_ble_eq_true rfl) (by decide) ?_
  exact loop (bN b) 0 (by omega)
theorem m_sumOf (hl : l.stackTraces = false) (hd : 1 ≤ d) {b : zWo} {R : rwT} {a k : Nat} (ha : zAr g a 519) (hR : rRow I a b R) (hk : k + 64 ≤ 512) : zD l Xi mX13_sumOf d [.ref a, .int (nI k)] I g (some (.int (sumF (fun p => R (k + p)) 64))) I := by
  refine zC_of hl rfl rfl rfl (Nat.le_of_ble_eq_true rfl) (zav_r ha.1 (zav_i zav_0)) ?_
  have loop : ∀ m p, p + m = 64 → zJ l Xi mX13_sumOf d 0 0 4 [some (.ref a), some (.int (nI k)), some (.int (sumF (fun p => R (k + p)) p)), some (.int (nI p))] [] (I, g) (fun r' h' => r' = .inl (some (.int (sumF (fun p => R (k + p)) 64))) ∧ h' = (I, g)) := by
    intro m
    induction m with
    | zero =>
      intro p hp
      obtain rfl : p = 64 := by omega
      refine zJ_iload_n dX13_sumOf_4 rfl ?_
      refine zJ_bipush (v := nI 64) dX13_sumOf_5 rfl ?_
      refine zJ_icmp_ge 24 dX13_sumOf_7 (by decide) (fun _ => ?_) (fun c7 => absurd (nI_le (by omega) (by omega)) c7)
      refine zJ_iload_n dX13_sumOf_24 rfl ?_
      refine zJ_iret rfl dX13_sumOf_25 ?_
      exact ⟨rfl, rfl⟩
    | succ m ih =>
      intro p hp
      refine zJ_iload_n dX13_sumOf_4 rfl ?_
      refine zJ_bipush (v := nI 64) dX13_sumOf_5 rfl ?_
      refine zJ_icmp_ge 24 dX13_sumOf_7 (by decide) (fun c7 => absurd c7 (nI_ge (by omega) (by omega))) (fun _ => ?_)
      refine zJ_iload_n dX13_sumOf_10 rfl ?_
      refine zJ_aload_n dX13_sumOf_11 rfl ?_
      refine zJ_iload_n dX13_sumOf_12 rfl ?_
      refine zJ_iload_n dX13_sumOf_13 rfl ?_
      refine zJ_iadd dX13_sumOf_14 ?_
      rw [nI_add]
      refine zP_iald ha (by first | assumption | with_reducible exact vp_in_nI (by omega) (by omega) | (simp (disch := omega) only [nI_add, pk_mul, pk_sub, pk_div, pk_rem, nI_clamp]; with_reducible exact vp_in_nI (by omega) (by omega))) dX13_sumOf_15 ?_
      rw [nI_clamp (by omega), hR.1 _ (by omega)]
      refine zJ_iadd dX13_sumOf_16 ?_
      refine zJ_istore_m 2 dX13_sumOf_17 rfl (Nat.le_of_ble_eq_true rfl) (by decide) ?_
      refine zJ_iinc1 dX13_sumOf_18 rfl (by decide) ?_
      refine zJ_goto 4 dX13_sumOf_21 (by decide) ?_
      exact zJ_back (zle_r (zle_r (zle_r (zle_r zle_0)))) rfl (ih (p + 1) (by omega))
  refine zJ_iconst (v := nI 0) dX13_sumOf_0 rfl ?_
  refine zJ_istore_m 2 dX13_sumOf_1 rfl (Nat.le_of_ble_eq_true rfl) (by decide) ?_
  refine zJ_iconst (v := nI 0) dX13_sumOf_2 rfl ?_
  refine zJ_istore_m 3 dX13_sumOf_3 rfl (Nat.le_of_ble_eq_true rfl) (by decide) ?_
  exact loop 64 0 (by omega)
/-! uses counted by nets or by places -/
theorem smN_add {f f' : Nat → Nat} : ∀ {n : Nat}, smN (fun k => f k + f' k) n = smN f n + smN f' n
  | 0 => rfl
  | n + 1 => by simp only [smN]; rw [smN_add]; omega
theorem smN_cB {f : Nat → Bool} : ∀ {n : Nat}, smN (fun k => if f k then 1 else 0) n = cB f n
  | 0 => rfl
  | n + 1 => by simp only [smN, cB]; rw [smN_cB]
theorem smN_0 : ∀ {n : Nat}, smN (fun _ => 0) n = 0
  | 0 => rfl
  | n + 1 => by simp only [smN]; rw [smN_0]
theorem two_ways {f : Nat → Nat → Bool} {m : Nat} : ∀ {n : Nat}, smN (fun k => cB (f k) m) n = smN (fun p => cB (fun k => f k p) n) m
  | 0 => by simp only [smN, cB]; exact smN_0.symm
  | n + 1 => by
    simp only [smN, cB]
    rw [two_ways (n := n), smN_add, smN_cB]
theorem sumF_smN {f : Nat → Nat} : ∀ {n : Nat}, sumF (fun k => nI (f k)) n = nI (smN f n)
  | 0 => rfl
  | n + 1 => by
    show sumF (fun k => nI (f k)) n + nI (f n) = nI (smN f n + f n)
    rw [sumF_smN, nI_add]
theorem usn_N {b : zWo} {R : rwT} (hb : bdOk b) (hok : okR b R) {p : Nat} (hp : p < 64) : cB (fun n => tin R n p) (bN b) = usn R p := by
  have h : rRow (fun _ => R) 0 b R := ⟨fun _ _ => rfl, fun _ _ => rfl, rfl⟩
  exact r_users hb h hok hp
theorem all_uses {b : zWo} {R : rwT} (hb : bdOk b) (hok : okR b R) : sumF (fun n => cntF (tin R n) 64) (bN b) = sUses R := by
  unfold sUses
  rw [sumF_congr (f' := fun n => nI (cB (tin R n) 64)) (fun n _ => cntF_nI), sumF_smN, sumF_smN, two_ways]
  congr 1
  exact smN_congr (fun p hp => usn_N hb hok hp)
theorem m_placesOfAll (hl : l.stackTraces = false) (hd : 4 ≤ d) (hs : zSt g) {b : zWo} {R : rwT} (hB : rB I b) {a : Nat} (ha : zAr g a 519) (hR : rRow I a b R) (hok : okR b R) : zD l Xi mX13_placesOfAll d [.ref 74, .ref a] I g (some (.int (sUses R))) I := by
  refine zC_of hl rfl rfl rfl (Nat.le_of_ble_eq_true rfl) (zav_r (zSt_ob hs 74 13 rfl).1 (zav_r ha.1 zav_0)) ?_
  have hN6 := hB.1.2.2.2.2.1
  have hN : I 78 (nI 2).toNatClampNeg = nI (bN b) := by rw [nI_clamp (by omega)]; exact hB.2.1.2.2.1
  rw [← all_uses hB.1 hok]
  have loop : ∀ m p, p + m = bN b → zJ l Xi mX13_placesOfAll d 0 0 4 [some (.ref 74), some (.ref a), some (.int (sumF (fun n => cntF (tin R n) 64) p)), some (.int (nI p))] [] (I, g) (fun r' h' => r' = .inl (some (.int (sumF (fun n => cntF (tin R n) 64) (bN b)))) ∧ h' = (I, g)) := by
    intro m
    induction m with
    | zero =>
      intro p hp
      obtain rfl : p = bN b := by omega
      refine zJ_iload_n dX13_placesOfAll_4 rfl ?_
      refine zJ_aload_n dX13_placesOfAll_5 rfl ?_
      refine zP_getr lf_X13_23 (zSt_ob hs 74 13 rfl) rfl (zSt_rf hs 74 12 78 rfl) dX13_placesOfAll_6 ?_
      refine zJ_iconst (v := nI 2) dX13_placesOfAll_9 rfl ?_
      refine zP_iald (zSt_ar hs 78 4 rfl) (by first | assumption | with_reducible exact vp_in_nI (by omega) (by omega) | (simp (disch := omega) only [nI_add, pk_mul, pk_sub, pk_div, pk_rem, nI_clamp]; with_reducible exact vp_in_nI (by omega) (by omega))) dX13_placesOfAll_10 ?_
      refine zJ_icmp_ge 28 dX13_placesOfAll_11 (by decide) (fun _ => ?_) (fun c11 => absurd (by rw [hN]; exact nI_le (by omega) (by omega)) c11)
      refine zJ_iload_n dX13_placesOfAll_28 rfl ?_
      refine zJ_iret rfl dX13_placesOfAll_29 ?_
      exact ⟨rfl, rfl⟩
    | succ m ih =>
      intro p hp
      refine zJ_iload_n dX13_placesOfAll_4 rfl ?_
      refine zJ_aload_n dX13_placesOfAll_5 rfl ?_
      refine zP_getr lf_X13_23 (zSt_ob hs 74 13 rfl) rfl (zSt_rf hs 74 12 78 rfl) dX13_placesOfAll_6 ?_
      refine zJ_iconst (v := nI 2) dX13_placesOfAll_9 rfl ?_
      refine zP_iald (zSt_ar hs 78 4 rfl) (by first | assumption | with_reducible exact vp_in_nI (by omega) (by omega) | (simp (disch := omega) only [nI_add, pk_mul, pk_sub, pk_div, pk_rem, nI_clamp]; with_reducible exact vp_in_nI (by omega) (by omega))) dX13_placesOfAll_10 ?_
      refine zJ_icmp_ge 28 dX13_placesOfAll_11 (by decide) (fun c11 => absurd c11 (by rw [hN]; exact nI_ge (by omega) (by omega))) (fun _ => ?_)
      refine zJ_iload_n dX13_placesOfAll_14 rfl ?_
      refine zJ_aload_n dX13_placesOfAll_15 rfl ?_
      refine zJ_iload_n dX13_placesOfAll_16 rfl ?_
      refine zP_callSi [_, _] _ ls_X13_332 (m_placesOf (d := d - 1) hl (by omega) ha hR (by omega)) rfl (by omega) (Nat.le_of_ble_eq_true rfl) rfl dX13_placesOfAll_17 ?_
      refine zJ_iadd dX13_placesOfAll_20 ?_
      refine zJ_istore_m 2 dX13_placesOfAll_21 rfl (Nat.le_of_ble_eq_true rfl) (by decide) ?_
      refine zJ_iinc1 dX13_placesOfAll_22 rfl (by decide) ?_
      refine zJ_goto 4 dX13_placesOfAll_25 (by decide) ?_
      exact zJ_back (zle_r (zle_r (zle_r (zle_r zle_0)))) rfl (ih (p + 1) (by omega))
  refine zJ_iconst (v := nI 0) dX13_placesOfAll_0 rfl ?_
  refine zJ_istore_m 2 dX13_placesOfAll_1 rfl (Nat.le_of_ble_eq_true rfl) (by decide) ?_
  refine zJ_iconst (v := nI 0) dX13_placesOfAll_2 rfl ?_
  refine zJ_istore_m 3 dX13_placesOfAll_3 rfl (Nat.le_of_ble_eq_true rfl) (by decide) ?_
  exact loop (bN b) 0 (by omega)
end ZRefJ
