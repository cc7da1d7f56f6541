/-! ===== the reference: laying, shedding ===== -/
section ZRefG
variable {l : Launch} {Xi : zXi} {d : Nat} {I : zI} {g : zG}
theorem m_laysOne (hl : l.stackTraces = false) (hd : 8 ≤ d) (hs : zSt g) {b : zWo} {R : rwT} (hB : rB I b) {a n : Nat} (ha : zAr g a 519) (haa : a = 533 ∨ a = 534 ∨ a = 535) (hR : rRow I a b R) (hok : okR b R) (hn : n < bN b) : zEi l Xi mX13_laysOne d [.ref 74, .ref a, .int (nI n)] I g (fun v J => v = (if decide (0 < bpc b n) then 1 else 0) ∧ rH a I J ∧ rRow J a b (if 0 < bpc b n then layA b R n else R)) := by
  refine zC_of hl rfl rfl rfl (Nat.le_of_ble_eq_true rfl) (zav_r (zSt_ob hs 74 13 rfl).1 (zav_r ha.1 (zav_i zav_0))) ?_
  have hb := hB.1
  have hN6 := hb.2.2.2.2.1
  have h4 := hb.2.2.2.2.2.1 n (by omega)
  have hc : I (89 + 1 + n) (nI 2).toNatClampNeg = nI (bpc b n) := by rw [nI_clamp (by omega)]; exact (hB.2.2.2.1 n hn).2
  by_cases hz : 0 < bpc b n
  · have hr0 : bpn b n 0 < 64 := (hb.2.2.2.2.2.2.1 n 0 (by omega) hz).1
    obtain ⟨z1, z2⟩ := seed_T (R := R) hb (show n < 6 by omega) hz
    have hok2 : okR b (upd (ripM R n) (n * 64 + bpn b n 0) 4) := okR_net hb hok (by omega) z1 (fun p hp h => by omega) (fun j hj => by rw [upd_ne (by omega), rip_out hj])
    refine zJ_aload_n dX13_laysOne_0 rfl ?_
    refine zP_getr lf_X13_40 (zSt_ob hs 74 13 rfl) rfl (zSt_rf hs 74 17 89 rfl) dX13_laysOne_1 ?_
    refine zJ_iload_n dX13_laysOne_4 rfl ?_
    refine zP_rowK (k := n) (zSt_g89 hs) (by omega) (by decide) dX13_laysOne_5 ?_
    refine zJ_iconst (v := nI 2) dX13_laysOne_6 rfl ?_
    refine zP_iald (zGr_ar (zSt_g89 hs) (i := n) (by omega)) (by first | assumption | with_reducible exact vp_in_nI (by omega) (by omega) | (simp (disch := omega) only [nI_add, pk_mul, pk_sub, pk_div, pk_rem, nI_clamp]; with_reducible exact vp_in_nI (by omega) (by omega))) dX13_laysOne_7 ?_
    rw [hc]
    refine zJ_if_ne 13 dX13_laysOne_8 (by decide) (fun _ => ?_) (fun c8 => absurd c8 (nI_ne0 hz (by omega)))
    refine zJ_aload_n dX13_laysOne_13 rfl ?_
    refine zJ_iload_n dX13_laysOne_14 rfl ?_
    refine zP_ecallSv [_, _] _ ls_X13_326 (m_ripsAll (d := d - 1) hl (by omega) ha hR hN6 (by omega)) rfl (by omega) (Nat.le_of_ble_eq_true rfl) rfl dX13_laysOne_15 (fun J h => ?_)
    have hBJ : rB J b := rB_rH hB haa (rH_on h.1)
    refine zJ_aload_n dX13_laysOne_18 rfl ?_
    refine zJ_iload_n dX13_laysOne_19 rfl ?_
    refine zJ_aload_n dX13_laysOne_20 rfl ?_
    refine zP_getr lf_X13_46 (zSt_ob hs 74 13 rfl) rfl (zSt_rf hs 74 19 103 rfl) dX13_laysOne_21 ?_
    refine zJ_iload_n dX13_laysOne_24 rfl ?_
    refine zP_rowK (k := n) (zSt_g103 hs) (by omega) (by decide) dX13_laysOne_25 ?_
    refine zJ_iconst (v := nI 0) dX13_laysOne_26 rfl ?_
    refine zP_iald (zGr_ar (zSt_g103 hs) (i := n) (by omega)) (by first | assumption | with_reducible exact vp_in_nI (by omega) (by omega) | (simp (disch := omega) only [nI_add, pk_mul, pk_sub, pk_div, pk_rem, nI_clamp]; with_reducible exact vp_in_nI (by omega) (by omega))) dX13_laysOne_27 ?_
    rw [nI_clamp (by omega), hBJ.2.2.2.2.1 n 0 hn hz]
    refine zP_callSi [_, _] _ ls_X13_284 (k_treeOf (d := d - 1) hl (by omega)) rfl (by omega) (Nat.le_of_ble_eq_true rfl) rfl dX13_laysOne_28 ?_
    refine zJ_iconst (v := nI 4) dX13_laysOne_31 rfl ?_
    refine zP_iast ha (by first | assumption | with_reducible exact vp_in_nI (by omega) (by omega) | (simp (disch := omega) only [nI_add, pk_mul, pk_sub, pk_div, pk_rem, nI_clamp]; with_reducible exact vp_in_nI (by omega) (by omega))) dX13_laysOne_32 ?_
    rw [nI_clamp (by omega)]
    have hR2 : rRow (zup J a (n * 64 + bpn b n 0) (nI 4)) a b (upd (ripM R n) (n * 64 + bpn b n 0) 4) := rRow_upd h.2 rfl (by omega)
    have hJ2 : rH a I (zup J a (n * 64 + bpn b n 0) (nI 4)) := rH_trans (rH_on h.1) (fun c h1 _ _ _ _ => zup_row h1)
    refine zJ_aload_n dX13_laysOne_33 rfl ?_
    refine zJ_aload_n dX13_laysOne_34 rfl ?_
    refine zJ_iload_n dX13_laysOne_35 rfl ?_
    refine zP_ecallVv [_, _] _ lv_X13_329 (m_grows (d := d - 1) hl (by omega) hs (rB_rH hB haa hJ2) ha haa hR2 hok2 hn z2) (zSt_ob hs 74 13 rfl) rfl (by omega) (Nat.le_of_ble_eq_true rfl) rfl dX13_laysOne_36 (fun K hK => ?_)
    refine zJ_iconst (v := nI 1) dX13_laysOne_39 rfl ?_
    refine zJ_zret rfl (by decide) dX13_laysOne_40 ?_
    refine ⟨_, K, rfl, rfl, by rw [decide_eq_true hz]; rfl, rH_trans hJ2 hK.1, ?_⟩
    rw [if_pos hz]; exact hK.2
  · skip
    refine zJ_aload_n dX13_laysOne_0 rfl ?_
    refine zP_getr lf_X13_40 (zSt_ob hs 74 13 rfl) rfl (zSt_rf hs 74 17 89 rfl) dX13_laysOne_1 ?_
    refine zJ_iload_n dX13_laysOne_4 rfl ?_
    refine zP_rowK (k := n) (zSt_g89 hs) (by omega) (by decide) dX13_laysOne_5 ?_
    refine zJ_iconst (v := nI 2) dX13_laysOne_6 rfl ?_
    refine zP_iald (zGr_ar (zSt_g89 hs) (i := n) (by omega)) (by first | assumption | with_reducible exact vp_in_nI (by omega) (by omega) | (simp (disch := omega) only [nI_add, pk_mul, pk_sub, pk_div, pk_rem, nI_clamp]; with_reducible exact vp_in_nI (by omega) (by omega))) dX13_laysOne_7 ?_
    rw [hc]
    refine zJ_if_ne 13 dX13_laysOne_8 (by decide) (fun c8 => absurd (by rw [show bpc b n = 0 by omega]; rfl) c8) (fun _ => ?_)
    refine zJ_iconst (v := nI 0) dX13_laysOne_11 rfl ?_
    refine zJ_zret rfl (by decide) dX13_laysOne_12 ?_
    refine ⟨_, I, rfl, rfl, by rw [decide_eq_false hz]; rfl, rH_rfl, ?_⟩
    rw [if_neg hz]; exact hR
theorem nI_le0 {k : Nat} (hk : k < 2 ^ 31) : nI k ≤ 0 ↔ k = 0 := ⟨fun h => by have := (nI_leI (a := k) (b := 0) (by omega) (by omega)).mp h; omega, fun h => by rw [h]; decide⟩
theorem ov_le {b : zWo} {R : rwT} {p : Nat} : ovN b R p ≤ 6 := by
  have : usn R p ≤ 6 := cB_le
  unfold ovN; omega
theorem m_overOf (hl : l.stackTraces = false) (hd : 5 ≤ d) (hs : zSt g) {b : zWo} {R : rwT} (hB : rB I b) {a n : Nat} (ha : zAr g a 519) (hR : rRow I a b R) (hok : okR b R) (hn : n < bN b) : zD l Xi mX13_overOf d [.ref 74, .ref a, .int (nI n)] I g (some (.int (cntF (fun p => tin R n p && decide (0 < ovN b R p)) 64))) I := by
  refine zC_of hl rfl rfl rfl (Nat.le_of_ble_eq_true rfl) (zav_r (zSt_ob hs 74 13 rfl).1 (zav_r ha.1 (zav_i zav_0))) ?_
  have hN6 := hB.1.2.2.2.2.1
  have loop : ∀ m p, p + m = 64 → zJ l Xi mX13_overOf d 0 0 5 [some (.ref 74), some (.ref a), some (.int (nI n)), some (.int (cntF (fun p => tin R n p && decide (0 < ovN b R p)) p)), some (.int (nI p))] [] (I, g) (fun r' h' => r' = .inl (some (.int (cntF (fun p => tin R n p && decide (0 < ovN b R p)) 64))) ∧ h' = (I, g)) := by
    intro m
    induction m with
    | zero =>
      intro p hp
      obtain rfl : p = 64 := by omega
      refine zJ_iload dX13_overOf_5 rfl ?_
      refine zJ_bipush (v := nI 64) dX13_overOf_7 rfl ?_
      refine zJ_icmp_ge 46 dX13_overOf_9 (by decide) (fun _ => ?_) (fun c9 => absurd (nI_le (by omega) (by omega)) c9)
      refine zJ_iload_n dX13_overOf_46 rfl ?_
      refine zJ_iret rfl dX13_overOf_47 ?_
      exact ⟨rfl, rfl⟩
    | succ m ih =>
      intro p hp
      have hta : tin (I a) n p = tin R n p := r_tin hR (by omega) (by omega)
      have hov : ovN b R p ≤ 6 := ov_le
      refine zJ_iload dX13_overOf_5 rfl ?_
      refine zJ_bipush (v := nI 64) dX13_overOf_7 rfl ?_
      refine zJ_icmp_ge 46 dX13_overOf_9 (by decide) (fun c9 => absurd c9 (nI_ge (by omega) (by omega))) (fun _ => ?_)
      refine zJ_iload_n dX13_overOf_12 rfl ?_
      refine zJ_aload_n dX13_overOf_13 rfl ?_
      refine zJ_iload_n dX13_overOf_14 rfl ?_
      refine zJ_iload dX13_overOf_15 rfl ?_
      refine zP_callSi [_, _, _] _ ls_X13_287 (k_isIn (d := d - 1) hl (by omega) ha (by omega) (by omega)) rfl (by omega) (Nat.le_of_ble_eq_true rfl) rfl dX13_overOf_17 ?_
      refine zJ_if_eq 37 dX13_overOf_20 (by decide) (fun c20 => ?_) (fun c20 => ?_)
      · replace c20 := zb0.mp c20
        refine zJ_iconst (v := nI 0) dX13_overOf_37 rfl ?_
        refine zJ_iadd dX13_overOf_38 ?_
        refine zJ_istore_m 3 dX13_overOf_39 rfl (Nat.le_of_ble_eq_true rfl) (by decide) ?_
        refine zJ_iinc1 dX13_overOf_40 rfl (by decide) ?_
        refine zJ_goto 5 dX13_overOf_43 (by decide) ?_
        rw [hta] at c20
        refine zJ_eq ?_ rfl rfl (ih (p + 1) (by omega))
        simp [cntF, lp, c20, nI0]
      · replace c20 := zb1.mp c20
        refine zJ_aload_n dX13_overOf_23 rfl ?_
        refine zJ_aload_n dX13_overOf_24 rfl ?_
        refine zJ_iload dX13_overOf_25 rfl ?_
        refine zP_callVi [_, _] _ lv_X13_335 (k_over (d := d - 1) hl (by omega) hs hB ha hR hok (by omega)) (zSt_ob hs 74 13 rfl) rfl (by omega) (Nat.le_of_ble_eq_true rfl) rfl dX13_overOf_27 ?_
        refine zJ_if_le 37 dX13_overOf_30 (by decide) (fun c30 => ?_) (fun c30 => ?_)
        · skip
          refine zJ_iconst (v := nI 0) dX13_overOf_37 rfl ?_
          refine zJ_iadd dX13_overOf_38 ?_
          refine zJ_istore_m 3 dX13_overOf_39 rfl (Nat.le_of_ble_eq_true rfl) (by decide) ?_
          refine zJ_iinc1 dX13_overOf_40 rfl (by decide) ?_
          refine zJ_goto 5 dX13_overOf_43 (by decide) ?_
          rw [hta] at c20
          rw [nI_le0 (by omega)] at c30
          refine zJ_eq ?_ rfl rfl (ih (p + 1) (by omega))
          simp [cntF, lp, c20, c30, nI0]
        · skip
          refine zJ_iconst (v := nI 1) dX13_overOf_33 rfl ?_
          refine zJ_goto 38 dX13_overOf_34 (by decide) ?_
          refine zJ_iadd dX13_overOf_38 ?_
          refine zJ_istore_m 3 dX13_overOf_39 rfl (Nat.le_of_ble_eq_true rfl) (by decide) ?_
          refine zJ_iinc1 dX13_overOf_40 rfl (by decide) ?_
          refine zJ_goto 5 dX13_overOf_43 (by decide) ?_
          rw [hta] at c20
          rw [nI_le0 (by omega)] at c30
          refine zJ_eq ?_ rfl rfl (ih (p + 1) (by omega))
          simp [cntF, lp, c20, show 0 < ovN b R p by omega, nI1]
  refine zJ_iconst (v := nI 0) dX13_overOf_0 rfl ?_
  refine zJ_istore_m 3 dX13_overOf_1 rfl (Nat.le_of_ble_eq_true rfl) (by decide) ?_
  refine zJ_iconst (v := nI 0) dX13_overOf_2 rfl ?_
  refine zJ_istore dX13_overOf_3 (Nat.le_of_ble_eq_true rfl) (by decide) ?_
  exact loop 64 0 (by omega)
theorem stpM_none {b : zWo} {R : rwT} {n k : Nat} : stpM b R n k none = 0 := by cases k <;> rfl
theorem par_root {b : zWo} {R : rwT} {n p : Nat} (h : R (n * 64 + p) = 4) : parM b R n p = none := by unfold parM; rw [if_pos (Or.inr h)]
theorem stp_fuel {b : zWo} {R : rwT} {n : Nat} {dep : Nat → Nat} (hb : bdOk b) (hd : depOk b R n dep none) : ∀ {m q k k' : Nat}, dep q ≤ m → q < 64 → tin R n q = true → dep q ≤ k → dep q ≤ k' → stpM b R n k (parM b R n q) = stpM b R n k' (parM b R n q) := by
  intro m
  induction m with
  | zero =>
    intro q k k' h1 hq ht h2 h3
    by_cases z : q = bpn b n 0
    · rw [par_root ((root_way hd hq ht).mpr z), stpM_none, stpM_none]
    · obtain ⟨v, e, -, -, -, -, h9, -⟩ := par_of hd hq ht z
      omega
  | succ m ih =>
    intro q k k' h1 hq ht h2 h3
    by_cases z : q = bpn b n 0
    · rw [par_root ((root_way hd hq ht).mpr z), stpM_none, stpM_none]
    · obtain ⟨v, e, w1, w2, w3, w4, w5, w6⟩ := par_of hd hq ht z
      obtain ⟨k1, rfl⟩ : ∃ k1, k = k1 + 1 := ⟨k - 1, by omega⟩
      obtain ⟨k2, rfl⟩ : ∃ k2, k' = k2 + 1 := ⟨k' - 1, by omega⟩
      rw [w6]
      simp only [stpM]
      rw [ih (k := k1) (k' := k2) (by omega) (nbr_lt hb hq w3) w4 (by omega) (by omega)]
theorem m_stepsOf (hl : l.stackTraces = false) (hd : 4 ≤ d) (hs : zSt g) {b : zWo} {R : rwT} (hB : rB I b) {a n p : Nat} (ha : zAr g a 519) (hR : rRow I a b R) (hok : okR b R) (hn : n < bN b) (hp : p < 64) (ht : tin R n p = true) : zD l Xi mX13_stepsOf d [.ref 74, .ref a, .int (nI n), .int (nI p)] I g (some (.int (nI (stM b R n p)))) I := by
  refine zC_of hl rfl rfl rfl (Nat.le_of_ble_eq_true rfl) (zav_r (zSt_ob hs 74 13 rfl).1 (zav_r ha.1 (zav_i (zav_i zav_0)))) ?_
  have hb := hB.1
  have hN6 := hb.2.2.2.2.1
  obtain ⟨dep, hdp, hd64⟩ := okT_bd hb (hok.1 n (by omega))
  have loop : ∀ m e cn, dep e ≤ m → e < 64 → tin R n e = true → cn + stM b R n e = stM b R n p → zJ l Xi mX13_stepsOf d 0 0 6 [some (.ref 74), some (.ref a), some (.int (nI n)), some (.int (nI p)), some (.int (nI cn)), some (.int (nI e))] [] (I, g) (fun r' h' => r' = .inl (some (.int (nI (stM b R n p)))) ∧ h' = (I, g)) := by
    have root : ∀ e cn, e < 64 → tin R n e = true → e = bpn b n 0 → cn + stM b R n e = stM b R n p → zJ l Xi mX13_stepsOf d 0 0 6 [some (.ref 74), some (.ref a), some (.int (nI n)), some (.int (nI p)), some (.int (nI cn)), some (.int (nI e))] [] (I, g) (fun r' h' => r' = .inl (some (.int (nI (stM b R n p)))) ∧ h' = (I, g)) := by
      intro e cn he hte hz hcn
      have hw := (root_way hdp he hte).mpr hz
      have h0 : stM b R n e = 0 := by unfold stM; rw [par_root hw, stpM_none]
      refine zJ_aload_n dX13_stepsOf_6 rfl ?_
      refine zJ_iload_n dX13_stepsOf_7 rfl ?_
      refine zJ_iload dX13_stepsOf_8 rfl ?_
      refine zP_callSi [_, _] _ ls_X13_284 (k_treeOf (d := d - 1) hl (by omega)) rfl (by omega) (Nat.le_of_ble_eq_true rfl) rfl dX13_stepsOf_10 ?_
      refine zP_iald ha (by first | assumption | with_reducible exact vp_in_nI (by omega) (by omega) | (simp (disch := omega) only [nI_add, pk_mul, pk_sub, pk_div, pk_rem, nI_clamp]; with_reducible exact vp_in_nI (by omega) (by omega))) dX13_stepsOf_13 ?_
      rw [nI_clamp (by omega), hR.1 _ (by omega), hw]
      refine zJ_iconst (v := nI 4) dX13_stepsOf_14 rfl ?_
      refine zJ_icmp_eq 40 dX13_stepsOf_15 (by decide) (fun _ => ?_) (fun c15 => absurd rfl c15)
      refine zJ_iload dX13_stepsOf_40 rfl ?_
      refine zJ_iret rfl dX13_stepsOf_42 ?_
      exact ⟨by rw [← hcn, h0, Nat.add_zero], rfl⟩
    intro m
    induction m with
    | zero =>
      intro e cn h1 he hte hcn
      by_cases z : e = bpn b n 0
      · exact root e cn he hte z hcn
      · obtain ⟨v, q, -, -, -, -, h9, -⟩ := par_of hdp he hte z
        omega
    | succ m ih =>
      intro e cn h1 he hte hcn
      by_cases z : e = bpn b n 0
      · exact root e cn he hte z hcn
      · obtain ⟨v, q, w1, w2, w3, w4, w5, w6⟩ := par_of hdp he hte z
        have hie := (hdp e he hte).1
        have hde := hd64 e he hte
        have hst : stM b R n e = stM b R n q + 1 := by
          have hq := nbr_lt hb he w3
          unfold stM
          rw [w6]
          show stpM b R n 63 (parM b R n q) + 1 = _
          rw [stp_fuel hb hdp (m := dep q) (k := 63) (k' := 64) (Nat.le_refl _) hq w4 (by omega) (by omega)]
        refine zJ_aload_n dX13_stepsOf_6 rfl ?_
        refine zJ_iload_n dX13_stepsOf_7 rfl ?_
        refine zJ_iload dX13_stepsOf_8 rfl ?_
        refine zP_callSi [_, _] _ ls_X13_284 (k_treeOf (d := d - 1) hl (by omega)) rfl (by omega) (Nat.le_of_ble_eq_true rfl) rfl dX13_stepsOf_10 ?_
        refine zP_iald ha (by first | assumption | with_reducible exact vp_in_nI (by omega) (by omega) | (simp (disch := omega) only [nI_add, pk_mul, pk_sub, pk_div, pk_rem, nI_clamp]; with_reducible exact vp_in_nI (by omega) (by omega))) dX13_stepsOf_13 ?_
        rw [nI_clamp (by omega), hR.1 _ (by omega), w2]
        refine zJ_iconst (v := nI 4) dX13_stepsOf_14 rfl ?_
        refine zJ_icmp_eq 40 dX13_stepsOf_15 (by decide) (fun c15 => absurd c15 (fun h => by have := (nI_eq (by omega) (by omega)).mp h; omega)) (fun _ => ?_)
        refine zJ_aload_n dX13_stepsOf_18 rfl ?_
        refine zJ_iload dX13_stepsOf_19 rfl ?_
        refine zJ_aload_n dX13_stepsOf_21 rfl ?_
        refine zJ_iload_n dX13_stepsOf_22 rfl ?_
        refine zJ_iload dX13_stepsOf_23 rfl ?_
        refine zP_callSi [_, _] _ ls_X13_284 (k_treeOf (d := d - 1) hl (by omega)) rfl (by omega) (Nat.le_of_ble_eq_true rfl) rfl dX13_stepsOf_25 ?_
        refine zP_iald ha (by first | assumption | with_reducible exact vp_in_nI (by omega) (by omega) | (simp (disch := omega) only [nI_add, pk_mul, pk_sub, pk_div, pk_rem, nI_clamp]; with_reducible exact vp_in_nI (by omega) (by omega))) dX13_stepsOf_28 ?_
        rw [nI_clamp (by omega), hR.1 _ (by omega), w2]
        refine zP_callVi [_, _] _ lv_X13_309 (k_neighbour (d := d - 1) hl (by omega) hs hB he hie w1) (zSt_ob hs 74 13 rfl) rfl (by omega) (Nat.le_of_ble_eq_true rfl) rfl dX13_stepsOf_29 ?_
        rw [w3]
        simp only [oI]
        refine zJ_istore dX13_stepsOf_32 (Nat.le_of_ble_eq_true rfl) (by decide) ?_
        refine zJ_iinc1 dX13_stepsOf_34 rfl (by decide) ?_
        refine zJ_goto 6 dX13_stepsOf_37 (by decide) ?_
        exact zJ_back (zle_r (zle_r (zle_r (zle_r (zle_r (zle_r zle_0)))))) rfl (ih q (cn + 1) (by omega) (nbr_lt hb he w3) w4 (by omega))
  refine zJ_iconst (v := nI 0) dX13_stepsOf_0 rfl ?_
  refine zJ_istore dX13_stepsOf_1 (Nat.le_of_ble_eq_true rfl) (by decide) ?_
  refine zJ_iload_n dX13_stepsOf_3 rfl ?_
  refine zJ_istore dX13_stepsOf_4 (Nat.le_of_ble_eq_true rfl) (by decide) ?_
  exact zJ_back (zle_r (zle_r (zle_r (zle_r (zle_r (zle_r zle_0)))))) rfl (loop (dep p) p 0 (Nat.le_refl _) hp ht (by omega))
theorem m_isFree (hl : l.stackTraces = false) (hd : 5 ≤ d) (hs : zSt g) {b : zWo} {R : rwT} (hB : rB I b) {a n p : Nat} (ha : zAr g a 519) (hR : rRow I a b R) (hok : okR b R) (hn : n < bN b) (hp : p < 64) (ht : tin R n p = true) : zD l Xi mX13_isFree d [.ref 74, .ref a, .int (nI n), .int (nI p)] I g (some (.int (if clrM b R n 64 (some p) then 1 else 0))) I := by
  refine zC_of hl rfl rfl rfl (Nat.le_of_ble_eq_true rfl) (zav_r (zSt_ob hs 74 13 rfl).1 (zav_r ha.1 (zav_i (zav_i zav_0)))) ?_
  have hb := hB.1
  have hN6 := hb.2.2.2.2.1
  obtain ⟨dep, hdp, hd64⟩ := okT_bd hb (hok.1 n (by omega))
  have loop : ∀ m e, dep e ≤ m → e < 64 → tin R n e = true → clrM b R n 64 (some e) = clrM b R n 64 (some p) → zJ l Xi mX13_isFree d 0 0 3 [some (.ref 74), some (.ref a), some (.int (nI n)), some (.int (nI p)), some (.int (nI e))] [] (I, g) (fun r' h' => r' = .inl (some (.int (if clrM b R n 64 (some p) then 1 else 0))) ∧ h' = (I, g)) := by
    have root : ∀ e, e < 64 → tin R n e = true → e = bpn b n 0 → clrM b R n 64 (some e) = clrM b R n 64 (some p) → zJ l Xi mX13_isFree d 0 0 3 [some (.ref 74), some (.ref a), some (.int (nI n)), some (.int (nI p)), some (.int (nI e))] [] (I, g) (fun r' h' => r' = .inl (some (.int (if clrM b R n 64 (some p) then 1 else 0))) ∧ h' = (I, g)) := by
      intro e he hte hz hcn
      have hw := (root_way hdp he hte).mpr hz
      have h0 : clrM b R n 64 (some e) = true := by rw [clrM, if_pos hz]
      refine zJ_aload_n dX13_isFree_3 rfl ?_
      refine zJ_iload_n dX13_isFree_4 rfl ?_
      refine zJ_iload dX13_isFree_5 rfl ?_
      refine zP_callSi [_, _] _ ls_X13_284 (k_treeOf (d := d - 1) hl (by omega)) rfl (by omega) (Nat.le_of_ble_eq_true rfl) rfl dX13_isFree_7 ?_
      refine zP_iald ha (by first | assumption | with_reducible exact vp_in_nI (by omega) (by omega) | (simp (disch := omega) only [nI_add, pk_mul, pk_sub, pk_div, pk_rem, nI_clamp]; with_reducible exact vp_in_nI (by omega) (by omega))) dX13_isFree_10 ?_
      rw [nI_clamp (by omega), hR.1 _ (by omega), hw]
      refine zJ_iconst (v := nI 4) dX13_isFree_11 rfl ?_
      refine zJ_icmp_eq 46 dX13_isFree_12 (by decide) (fun _ => ?_) (fun c12 => absurd rfl c12)
      refine zJ_iconst (v := nI 1) dX13_isFree_46 rfl ?_
      refine zJ_zret rfl (by decide) dX13_isFree_47 ?_
      exact ⟨by rw [← hcn, h0]; rfl, rfl⟩
    intro m
    induction m with
    | zero =>
      intro e h1 he hte hcn
      by_cases z : e = bpn b n 0
      · exact root e he hte z hcn
      · obtain ⟨v, q, -, -, -, -, h9, -⟩ := par_of hdp he hte z
        omega
    | succ m ih =>
      intro e h1 he hte hcn
      by_cases z : e = bpn b n 0
      · exact root e he hte z hcn
      · obtain ⟨v, q, w1, w2, w3, w4, w5, w6⟩ := par_of hdp he hte z
        have hie := (hdp e he hte).1
        have hde := hd64 e he hte
        have hov : ovN b R e ≤ 6 := ov_le
        have hst : clrM b R n 64 (some e) = if 0 < ovN b R e then false else clrM b R n 64 (some q) := by
          rw [clrM, if_neg z, w6, clr_fuel hb hdp (m := dep q) (k := 63) (k' := 64) (Nat.le_refl _) (nbr_lt hb he w3) w4 (by omega) (by omega)]
        refine zJ_aload_n dX13_isFree_3 rfl ?_
        refine zJ_iload_n dX13_isFree_4 rfl ?_
        refine zJ_iload dX13_isFree_5 rfl ?_
        refine zP_callSi [_, _] _ ls_X13_284 (k_treeOf (d := d - 1) hl (by omega)) rfl (by omega) (Nat.le_of_ble_eq_true rfl) rfl dX13_isFree_7 ?_
        refine zP_iald ha (by first | assumption | with_reducible exact vp_in_nI (by omega) (by omega) | (simp (disch := omega) only [nI_add, pk_mul, pk_sub, pk_div, pk_rem, nI_clamp]; with_reducible exact vp_in_nI (by omega) (by omega))) dX13_isFree_10 ?_
        rw [nI_clamp (by omega), hR.1 _ (by omega), w2]
        refine zJ_iconst (v := nI 4) dX13_isFree_11 rfl ?_
        refine zJ_icmp_eq 46 dX13_isFree_12 (by decide) (fun c12 => absurd c12 (fun h => by have := (nI_eq (by omega) (by omega)).mp h; omega)) (fun _ => ?_)
        refine zJ_aload_n dX13_isFree_15 rfl ?_
        refine zJ_aload_n dX13_isFree_16 rfl ?_
        refine zJ_iload dX13_isFree_17 rfl ?_
        refine zP_callVi [_, _] _ lv_X13_335 (k_over (d := d - 1) hl (by omega) hs hB ha hR hok he) (zSt_ob hs 74 13 rfl) rfl (by omega) (Nat.le_of_ble_eq_true rfl) rfl dX13_isFree_19 ?_
        refine zJ_if_le 27 dX13_isFree_22 (by decide) (fun c22 => ?_) (fun c22 => ?_)
        · skip
          refine zJ_aload_n dX13_isFree_27 rfl ?_
          refine zJ_iload dX13_isFree_28 rfl ?_
          refine zJ_aload_n dX13_isFree_30 rfl ?_
          refine zJ_iload_n dX13_isFree_31 rfl ?_
          refine zJ_iload dX13_isFree_32 rfl ?_
          refine zP_callSi [_, _] _ ls_X13_284 (k_treeOf (d := d - 1) hl (by omega)) rfl (by omega) (Nat.le_of_ble_eq_true rfl) rfl dX13_isFree_34 ?_
          refine zP_iald ha (by first | assumption | with_reducible exact vp_in_nI (by omega) (by omega) | (simp (disch := omega) only [nI_add, pk_mul, pk_sub, pk_div, pk_rem, nI_clamp]; with_reducible exact vp_in_nI (by omega) (by omega))) dX13_isFree_37 ?_
          rw [nI_clamp (by omega), hR.1 _ (by omega), w2]
          refine zP_callVi [_, _] _ lv_X13_309 (k_neighbour (d := d - 1) hl (by omega) hs hB he hie w1) (zSt_ob hs 74 13 rfl) rfl (by omega) (Nat.le_of_ble_eq_true rfl) rfl dX13_isFree_38 ?_
          rw [w3]
          simp only [oI]
          refine zJ_istore dX13_isFree_41 (Nat.le_of_ble_eq_true rfl) (by decide) ?_
          refine zJ_goto 3 dX13_isFree_43 (by decide) ?_
          rw [nI_le0 (by omega)] at c22
          rw [if_neg (by omega)] at hst
          exact zJ_back (zle_r (zle_r (zle_r (zle_r (zle_r zle_0))))) rfl (ih q (by omega) (nbr_lt hb he w3) w4 (hst.symm.trans hcn))
        · skip
          refine zJ_iconst (v := nI 0) dX13_isFree_25 rfl ?_
          refine zJ_zret rfl (by decide) dX13_isFree_26 ?_
          rw [nI_le0 (by omega)] at c22
          rw [if_pos (by omega)] at hst
          exact ⟨by rw [← hcn, hst]; rfl, rfl⟩
  refine zJ_iload_n dX13_isFree_0 rfl ?_
  refine zJ_istore dX13_isFree_1 (Nat.le_of_ble_eq_true rfl) (by decide) ?_
  exact zJ_back (zle_r (zle_r (zle_r (zle_r (zle_r zle_0))))) rfl (loop (dep p) p (Nat.le_refl _) hp ht rfl)
end ZRefG
