/-! ===== the reference: fault, status, count ===== -/
section ZRefP
variable {l : Launch} {Xi : zXi} {d : Nat} {I : zI} {g : zG}
theorem rQ_thr {x : Int32} : rQ I (zup I 74 0 x) := ⟨fun a q1 _ _ _ _ _ => zup_row q1, fun k q1 _ => by rw [zup_same, upd_ne q1]⟩
theorem thr_at {x : Int32} : zup I 74 0 x 74 0 = x := by rw [zup_same, upd_at]
theorem thr_ne {x : Int32} {k : Nat} (hk : k ≠ 0) : zup I 74 0 x 74 k = I 74 k := by rw [zup_same, upd_ne hk]
theorem m_fault (hl : l.stackTraces = false) (hd : 1 ≤ d) (hs : zSt g) {S : sT} (hI : rI I S) : zEi l Xi mX13_fault d [.ref 74] I g (fun v J => v = S.1.2.2 ∧ J 74 0 = nI 0 ∧ rQ I J) := by
  refine zC_of hl rfl rfl rfl (Nat.le_of_ble_eq_true rfl) (zav_r (zSt_ob hs 74 13 rfl).1 zav_0) ?_
  refine zJ_aload_n dX13_fault_0 rfl ?_
  refine zJ_iconst (v := nI 0) dX13_fault_1 rfl ?_
  refine zP_puti lf_X13_107 (zSt_ob hs 74 13 rfl) rfl dX13_fault_2 ?_
  refine zJ_aload_n dX13_fault_5 rfl ?_
  refine zP_geti lf_X13_9 (zSt_ob hs 74 13 rfl) rfl dX13_fault_6 ?_
  refine zJ_iret rfl dX13_fault_9 ?_
  exact ⟨_, _, rfl, rfl, by rw [thr_ne (by decide)]; exact hI.2.1, thr_at, rQ_thr⟩
theorem m_count (hl : l.stackTraces = false) (hd : 1 ≤ d) (hs : zSt g) {S : sT} (hI : rI I S) {x : Int32} : zEi l Xi mX13_count d [.ref 74, .int x] I g (fun v J => v = cntV S x ∧ J 74 0 = nI 0 ∧ rQ I J) := by
  refine zC_of hl rfl rfl rfl (Nat.le_of_ble_eq_true rfl) (zav_r (zSt_ob hs 74 13 rfl).1 (zav_i zav_0)) ?_
  obtain ⟨h1, h2, h3, h4, h5, h6, h7, h8⟩ := hI
  refine zJ_aload_n dX13_count_0 rfl ?_
  refine zJ_iconst (v := nI 0) dX13_count_1 rfl ?_
  refine zP_puti lf_X13_107 (zSt_ob hs 74 13 rfl) rfl dX13_count_2 ?_
  refine zJ_iload_n dX13_count_5 rfl ?_
  refine zJ_if_ne 16 dX13_count_6 (by decide) (fun c6 => ?_) (fun c6 => ?_)
  · skip
    refine zJ_iload_n dX13_count_16 rfl ?_
    refine zJ_iconst (v := nI 1) dX13_count_17 rfl ?_
    refine zJ_icmp_ne 28 dX13_count_18 (by decide) (fun c18 => ?_) (fun c18 => ?_)
    · skip
      refine zJ_iload_n dX13_count_28 rfl ?_
      refine zJ_iconst (v := nI 2) dX13_count_29 rfl ?_
      refine zJ_icmp_ne 40 dX13_count_30 (by decide) (fun c30 => ?_) (fun c30 => ?_)
      · skip
        refine zJ_iconst (v := -1) dX13_count_40 rfl ?_
        refine zJ_iret rfl dX13_count_41 ?_
        exact ⟨_, _, rfl, rfl, by unfold cntV; rw [if_neg c6, if_neg c18, if_neg c30], thr_at, rQ_thr⟩
      · skip
        refine zJ_aload_n dX13_count_33 rfl ?_
        refine zP_geti lf_X13_218 (zSt_ob hs 74 13 rfl) rfl dX13_count_34 ?_
        refine zJ_goto 41 dX13_count_37 (by decide) ?_
        refine zJ_iret rfl dX13_count_41 ?_
        exact ⟨_, _, rfl, rfl, by unfold cntV; rw [if_neg c6, if_neg c18, if_pos c30, thr_ne (by decide)]; exact h6.1, thr_at, rQ_thr⟩
    · skip
      refine zJ_aload_n dX13_count_21 rfl ?_
      refine zP_geti lf_X13_110 (zSt_ob hs 74 13 rfl) rfl dX13_count_22 ?_
      refine zJ_goto 41 dX13_count_25 (by decide) ?_
      refine zJ_iret rfl dX13_count_41 ?_
      exact ⟨_, _, rfl, rfl, by unfold cntV; rw [if_neg c6, if_pos c18, thr_ne (by decide)]; exact h1.1, thr_at, rQ_thr⟩
  · skip
    refine zJ_aload_n dX13_count_9 rfl ?_
    refine zP_geti lf_X13_224 (zSt_ob hs 74 13 rfl) rfl dX13_count_10 ?_
    refine zJ_goto 41 dX13_count_13 (by decide) ?_
    refine zJ_iret rfl dX13_count_41 ?_
    exact ⟨_, _, rfl, rfl, by unfold cntV; rw [if_pos c6, thr_ne (by decide)]; exact h7.1, thr_at, rQ_thr⟩
theorem m_status (hl : l.stackTraces = false) (hd : 2 ≤ d) (hs : zSt g) {S : sT} (hI : rI I S) {x : Int32} : zEi l Xi mX13_status d [.ref 74, .int x] I g (fun v J => v = statV S x ∧ J 74 0 = nI 0 ∧ rQ I J) := by
  refine zC_of hl rfl rfl rfl (Nat.le_of_ble_eq_true rfl) (zav_r (zSt_ob hs 74 13 rfl).1 (zav_i zav_0)) ?_
  obtain ⟨h1, h2, h3, h4, h5, h6, h7, h8, h9, h10⟩ := hI
  by_cases e0 : x = 0
  · subst e0
    refine zJ_aload_n dX13_status_0 rfl ?_
    refine zJ_iconst (v := nI 0) dX13_status_1 rfl ?_
    refine zP_puti lf_X13_107 (zSt_ob hs 74 13 rfl) rfl dX13_status_2 ?_
    refine zJ_iload_n dX13_status_5 rfl ?_
    refine zJ_iconst (v := nI 0) dX13_status_6 rfl ?_
    refine zJ_iconst (v := nI 1) dX13_status_7 rfl ?_
    refine zP_callSi [_, _, _] _ ls_X13_141 (k_in (d := d - 1) hl (by omega)) rfl (by omega) (Nat.le_of_ble_eq_true rfl) rfl dX13_status_8 ?_
    refine zJ_if_eq 23 dX13_status_11 (by decide) (fun c11 => absurd c11 (by decide)) (fun _ => ?_)
    refine zJ_aload_n dX13_status_14 rfl ?_
    refine zP_getr lf_X13_17 (zSt_ob hs 74 13 rfl) rfl (zSt_rf hs 74 10 76 rfl) dX13_status_15 ?_
    refine zJ_iload_n dX13_status_18 rfl ?_
    refine zP_iald (zSt_ar hs 76 2 rfl) (vp_in_nI (n := 0) (by omega) (by omega)) dX13_status_19 ?_
    refine zJ_goto 24 dX13_status_20 (by decide) ?_
    refine zJ_iret rfl dX13_status_24 ?_
    exact ⟨_, _, rfl, rfl, by rw [zup_row (by decide)]; exact h9, thr_at, rQ_thr⟩
  · by_cases e1 : x = nI 1
    · subst e1
      refine zJ_aload_n dX13_status_0 rfl ?_
      refine zJ_iconst (v := nI 0) dX13_status_1 rfl ?_
      refine zP_puti lf_X13_107 (zSt_ob hs 74 13 rfl) rfl dX13_status_2 ?_
      refine zJ_iload_n dX13_status_5 rfl ?_
      refine zJ_iconst (v := nI 0) dX13_status_6 rfl ?_
      refine zJ_iconst (v := nI 1) dX13_status_7 rfl ?_
      refine zP_callSi [_, _, _] _ ls_X13_141 (k_in (d := d - 1) hl (by omega)) rfl (by omega) (Nat.le_of_ble_eq_true rfl) rfl dX13_status_8 ?_
      refine zJ_if_eq 23 dX13_status_11 (by decide) (fun c11 => absurd c11 (by decide)) (fun _ => ?_)
      refine zJ_aload_n dX13_status_14 rfl ?_
      refine zP_getr lf_X13_17 (zSt_ob hs 74 13 rfl) rfl (zSt_rf hs 74 10 76 rfl) dX13_status_15 ?_
      refine zJ_iload_n dX13_status_18 rfl ?_
      refine zP_iald (zSt_ar hs 76 2 rfl) (by first | assumption | with_reducible exact vp_in_nI (by omega) (by omega) | (simp (disch := omega) only [nI_add, pk_mul, pk_sub, pk_div, pk_rem, nI_clamp]; with_reducible exact vp_in_nI (by omega) (by omega))) dX13_status_19 ?_
      refine zJ_goto 24 dX13_status_20 (by decide) ?_
      refine zJ_iret rfl dX13_status_24 ?_
      exact ⟨_, _, rfl, rfl, by rw [nI_clamp (by omega), zup_row (by decide)]; exact h10, thr_at, rQ_thr⟩
    · have hno : decide (¬ x < nI 0 ∧ x ≤ nI 1) = false := decide_eq_false (fun h => by
        obtain ⟨a1, a2⟩ := h
        have b1 : (0 : Int32) ≤ x := Int32.not_lt.mp a1
        have c1 := Int32.le_iff_toInt_le.mp b1
        have c2 := Int32.le_iff_toInt_le.mp a2
        have d1 : (0 : Int32).toInt = 0 := rfl
        have d2 : (nI 1).toInt = 1 := rfl
        have : x.toInt = 0 ∨ x.toInt = 1 := by omega
        rcases this with z | z
        · exact e0 (Int32.toInt_inj.mp z)
        · exact e1 (Int32.toInt_inj.mp (z.trans d2.symm)))
      refine zJ_aload_n dX13_status_0 rfl ?_
      refine zJ_iconst (v := nI 0) dX13_status_1 rfl ?_
      refine zP_puti lf_X13_107 (zSt_ob hs 74 13 rfl) rfl dX13_status_2 ?_
      refine zJ_iload_n dX13_status_5 rfl ?_
      refine zJ_iconst (v := nI 0) dX13_status_6 rfl ?_
      refine zJ_iconst (v := nI 1) dX13_status_7 rfl ?_
      refine zP_callSi [_, _, _] _ ls_X13_141 (k_in (d := d - 1) hl (by omega)) rfl (by omega) (Nat.le_of_ble_eq_true rfl) rfl dX13_status_8 ?_
      rw [hno]
      refine zJ_if_eq 23 dX13_status_11 (by decide) (fun _ => ?_) (fun c11 => absurd rfl c11)
      refine zJ_iconst (v := -1) dX13_status_23 rfl ?_
      refine zJ_iret rfl dX13_status_24 ?_
      exact ⟨_, _, rfl, rfl, by unfold statV; rw [if_neg e0, if_neg e1], thr_at, rQ_thr⟩
end ZRefP
