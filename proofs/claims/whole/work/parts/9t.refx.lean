/-! ===== the reference: told, net, place, would ===== -/
section ZRefX
variable {l : Launch} {Xi : zXi} {d : Nat} {I : zI} {g : zG}
theorem in_ok {w lo hi : Nat} (h1 : lo ≤ w) (h2 : w ≤ hi) (h3 : hi < 2 ^ 31) : decide (¬ nI w < nI lo ∧ nI w ≤ nI hi) = true := decide_eq_true ⟨nI_nlt h1 (by omega), (nI_leI (by omega) (by omega)).mpr h2⟩
theorem qRow_ok {b : zWo} {y : Nat} (hb : bdOk b) (hy : y < bR b) : qRow b (nI y) = true := decide_eq_true ⟨nI_pos (by have := hb.2.2.2.1; omega), nI_lt hy (by have := hb.2.2.2.1; omega)⟩
set_option maxHeartbeats 1000000 in
theorem m_told (hl : l.stackTraces = false) (hd : 12 ≤ d) (hs : zSt g) {S : sT} (hI : rI I S) (hok : okS S) {k : Nat} (hk : k ≤ 12) : zEi l Xi mX13_told d [.ref 74, .int (nI k)] I g (fun v J => v = toldV S k ∧ J 74 0 = nI 0 ∧ rQ I J) := by
  refine zC_of hl rfl rfl rfl (Nat.le_of_ble_eq_true rfl) (zav_r (zSt_ob hs 74 13 rfl).1 (zav_i zav_0)) ?_
  have hI0 := rI_rQ hI (rQ_thr (x := nI 0))
  have hB0 := hI0.2.2.1
  have hR0 := hI0.2.2.2.1
  have hb := hB0.1
  have hN6 := hb.2.2.2.2.1
  have hC8 := hb.2.1
  have hR8 := hb.2.2.2.1
  have ha := zSt_ar hs 533 519 rfl
  have hkk : k = 0 ∨ k = 1 ∨ k = 2 ∨ k = 3 ∨ k = 4 ∨ k = 5 ∨ k = 6 ∨ k = 7 ∨ k = 8 ∨ k = 9 ∨ k = 10 ∨ k = 11 ∨ k = 12 := by omega
  rcases hkk with rfl | rfl | rfl | rfl | rfl | rfl | rfl | rfl | rfl | rfl | rfl | rfl | rfl
  · skip
    refine zJ_aload_n dX13_told_0 rfl ?_
    refine zJ_iconst (v := nI 0) dX13_told_1 rfl ?_
    refine zP_puti lf_X13_107 (zSt_ob hs 74 13 rfl) rfl dX13_told_2 ?_
    refine zJ_aload_n dX13_told_5 rfl ?_
    refine zJ_iload_n dX13_told_6 rfl ?_
    refine zJ_iconst (v := nI 0) dX13_told_7 rfl ?_
    refine zJ_bipush (v := nI 12) dX13_told_8 rfl ?_
    refine zP_callSi [_, _, _] _ ls_X13_141 (k_in (d := d - 1) hl (by omega)) rfl (by omega) (Nat.le_of_ble_eq_true rfl) rfl dX13_told_10 ?_
    rw [show decide (¬ (nI 0) < (nI 0) ∧ (nI 0) ≤ (nI 12)) = true from in_ok (by omega) (by omega) (by omega)]
    refine zJ_if_ne 20 dX13_told_13 (by decide) (fun _ => ?_) (fun c13 => absurd c13 (by decide))
    refine zJ_iconst (v := nI 0) dX13_told_20 rfl ?_
    refine zJ_iconst (v := nI 1) dX13_told_21 rfl ?_
    refine zJ_iconst (v := nI 1) dX13_told_22 rfl ?_
    refine zP_callVi [_, _, _] _ lv_X13_186 (m_badF (d := d - 1) hl (by omega) hs thr_at) (zSt_ob hs 74 13 rfl) rfl (by omega) (Nat.le_of_ble_eq_true rfl) rfl dX13_told_23 ?_
    refine zJ_if_eq 31 dX13_told_26 (by decide) (fun _ => ?_) (fun c26 => absurd rfl c26)
    refine zJ_iload_n dX13_told_31 rfl ?_
    refine zJ_tabIn 96 dX13_told_32 (by decide) (by decide) rfl (by decide) ?_
    refine zJ_aload_n dX13_told_96 rfl ?_
    refine zP_getr lf_X13_23 (zSt_ob hs 74 13 rfl) rfl (zSt_rf hs 74 12 78 rfl) dX13_told_97 ?_
    refine zJ_iload_n dX13_told_100 rfl ?_
    refine zP_iald (zSt_ar hs 78 4 rfl) (by first | assumption | with_reducible exact vp_in_nI (by omega) (by omega) | (simp (disch := omega) only [nI_add, pk_mul, pk_sub, pk_div, pk_rem, nI_clamp]; with_reducible exact vp_in_nI (by omega) (by omega))) dX13_told_101 ?_
    refine zJ_iret rfl dX13_told_102 ?_
    exact ⟨_, _, rfl, rfl, by rw [nI_clamp (by omega)]; exact hB0.2.1.1, thr_at, rQ_thr⟩
  · skip
    refine zJ_aload_n dX13_told_0 rfl ?_
    refine zJ_iconst (v := nI 0) dX13_told_1 rfl ?_
    refine zP_puti lf_X13_107 (zSt_ob hs 74 13 rfl) rfl dX13_told_2 ?_
    refine zJ_aload_n dX13_told_5 rfl ?_
    refine zJ_iload_n dX13_told_6 rfl ?_
    refine zJ_iconst (v := nI 0) dX13_told_7 rfl ?_
    refine zJ_bipush (v := nI 12) dX13_told_8 rfl ?_
    refine zP_callSi [_, _, _] _ ls_X13_141 (k_in (d := d - 1) hl (by omega)) rfl (by omega) (Nat.le_of_ble_eq_true rfl) rfl dX13_told_10 ?_
    rw [show decide (¬ (nI 1) < (nI 0) ∧ (nI 1) ≤ (nI 12)) = true from in_ok (by omega) (by omega) (by omega)]
    refine zJ_if_ne 20 dX13_told_13 (by decide) (fun _ => ?_) (fun c13 => absurd c13 (by decide))
    refine zJ_iconst (v := nI 0) dX13_told_20 rfl ?_
    refine zJ_iconst (v := nI 1) dX13_told_21 rfl ?_
    refine zJ_iconst (v := nI 1) dX13_told_22 rfl ?_
    refine zP_callVi [_, _, _] _ lv_X13_186 (m_badF (d := d - 1) hl (by omega) hs thr_at) (zSt_ob hs 74 13 rfl) rfl (by omega) (Nat.le_of_ble_eq_true rfl) rfl dX13_told_23 ?_
    refine zJ_if_eq 31 dX13_told_26 (by decide) (fun _ => ?_) (fun c26 => absurd rfl c26)
    refine zJ_iload_n dX13_told_31 rfl ?_
    refine zJ_tabIn 96 dX13_told_32 (by decide) (by decide) rfl (by decide) ?_
    refine zJ_aload_n dX13_told_96 rfl ?_
    refine zP_getr lf_X13_23 (zSt_ob hs 74 13 rfl) rfl (zSt_rf hs 74 12 78 rfl) dX13_told_97 ?_
    refine zJ_iload_n dX13_told_100 rfl ?_
    refine zP_iald (zSt_ar hs 78 4 rfl) (by first | assumption | with_reducible exact vp_in_nI (by omega) (by omega) | (simp (disch := omega) only [nI_add, pk_mul, pk_sub, pk_div, pk_rem, nI_clamp]; with_reducible exact vp_in_nI (by omega) (by omega))) dX13_told_101 ?_
    refine zJ_iret rfl dX13_told_102 ?_
    exact ⟨_, _, rfl, rfl, by rw [nI_clamp (by omega)]; exact hB0.2.1.2.1, thr_at, rQ_thr⟩
  · skip
    refine zJ_aload_n dX13_told_0 rfl ?_
    refine zJ_iconst (v := nI 0) dX13_told_1 rfl ?_
    refine zP_puti lf_X13_107 (zSt_ob hs 74 13 rfl) rfl dX13_told_2 ?_
    refine zJ_aload_n dX13_told_5 rfl ?_
    refine zJ_iload_n dX13_told_6 rfl ?_
    refine zJ_iconst (v := nI 0) dX13_told_7 rfl ?_
    refine zJ_bipush (v := nI 12) dX13_told_8 rfl ?_
    refine zP_callSi [_, _, _] _ ls_X13_141 (k_in (d := d - 1) hl (by omega)) rfl (by omega) (Nat.le_of_ble_eq_true rfl) rfl dX13_told_10 ?_
    rw [show decide (¬ (nI 2) < (nI 0) ∧ (nI 2) ≤ (nI 12)) = true from in_ok (by omega) (by omega) (by omega)]
    refine zJ_if_ne 20 dX13_told_13 (by decide) (fun _ => ?_) (fun c13 => absurd c13 (by decide))
    refine zJ_iconst (v := nI 0) dX13_told_20 rfl ?_
    refine zJ_iconst (v := nI 1) dX13_told_21 rfl ?_
    refine zJ_iconst (v := nI 1) dX13_told_22 rfl ?_
    refine zP_callVi [_, _, _] _ lv_X13_186 (m_badF (d := d - 1) hl (by omega) hs thr_at) (zSt_ob hs 74 13 rfl) rfl (by omega) (Nat.le_of_ble_eq_true rfl) rfl dX13_told_23 ?_
    refine zJ_if_eq 31 dX13_told_26 (by decide) (fun _ => ?_) (fun c26 => absurd rfl c26)
    refine zJ_iload_n dX13_told_31 rfl ?_
    refine zJ_tabIn 96 dX13_told_32 (by decide) (by decide) rfl (by decide) ?_
    refine zJ_aload_n dX13_told_96 rfl ?_
    refine zP_getr lf_X13_23 (zSt_ob hs 74 13 rfl) rfl (zSt_rf hs 74 12 78 rfl) dX13_told_97 ?_
    refine zJ_iload_n dX13_told_100 rfl ?_
    refine zP_iald (zSt_ar hs 78 4 rfl) (by first | assumption | with_reducible exact vp_in_nI (by omega) (by omega) | (simp (disch := omega) only [nI_add, pk_mul, pk_sub, pk_div, pk_rem, nI_clamp]; with_reducible exact vp_in_nI (by omega) (by omega))) dX13_told_101 ?_
    refine zJ_iret rfl dX13_told_102 ?_
    exact ⟨_, _, rfl, rfl, by rw [nI_clamp (by omega)]; exact hB0.2.1.2.2.1, thr_at, rQ_thr⟩
  · skip
    refine zJ_aload_n dX13_told_0 rfl ?_
    refine zJ_iconst (v := nI 0) dX13_told_1 rfl ?_
    refine zP_puti lf_X13_107 (zSt_ob hs 74 13 rfl) rfl dX13_told_2 ?_
    refine zJ_aload_n dX13_told_5 rfl ?_
    refine zJ_iload_n dX13_told_6 rfl ?_
    refine zJ_iconst (v := nI 0) dX13_told_7 rfl ?_
    refine zJ_bipush (v := nI 12) dX13_told_8 rfl ?_
    refine zP_callSi [_, _, _] _ ls_X13_141 (k_in (d := d - 1) hl (by omega)) rfl (by omega) (Nat.le_of_ble_eq_true rfl) rfl dX13_told_10 ?_
    rw [show decide (¬ (nI 3) < (nI 0) ∧ (nI 3) ≤ (nI 12)) = true from in_ok (by omega) (by omega) (by omega)]
    refine zJ_if_ne 20 dX13_told_13 (by decide) (fun _ => ?_) (fun c13 => absurd c13 (by decide))
    refine zJ_iconst (v := nI 0) dX13_told_20 rfl ?_
    refine zJ_iconst (v := nI 1) dX13_told_21 rfl ?_
    refine zJ_iconst (v := nI 1) dX13_told_22 rfl ?_
    refine zP_callVi [_, _, _] _ lv_X13_186 (m_badF (d := d - 1) hl (by omega) hs thr_at) (zSt_ob hs 74 13 rfl) rfl (by omega) (Nat.le_of_ble_eq_true rfl) rfl dX13_told_23 ?_
    refine zJ_if_eq 31 dX13_told_26 (by decide) (fun _ => ?_) (fun c26 => absurd rfl c26)
    refine zJ_iload_n dX13_told_31 rfl ?_
    refine zJ_tabIn 103 dX13_told_32 (by decide) (by decide) rfl (by decide) ?_
    refine zJ_aload_n dX13_told_103 rfl ?_
    refine zP_getr lf_X13_70 (zSt_ob hs 74 13 rfl) rfl (zSt_rf hs 74 30 533 rfl) dX13_told_104 ?_
    refine zJ_sipush (v := nI 518) dX13_told_107 rfl ?_
    refine zP_iald (zSt_ar hs 533 519 rfl) (by first | assumption | with_reducible exact vp_in_nI (by omega) (by omega) | (simp (disch := omega) only [nI_add, pk_mul, pk_sub, pk_div, pk_rem, nI_clamp]; with_reducible exact vp_in_nI (by omega) (by omega))) dX13_told_110 ?_
    refine zJ_iret rfl dX13_told_111 ?_
    exact ⟨_, _, rfl, rfl, by rw [nI_clamp (by omega)]; exact hR0.2.2, thr_at, rQ_thr⟩
  · skip
    refine zJ_aload_n dX13_told_0 rfl ?_
    refine zJ_iconst (v := nI 0) dX13_told_1 rfl ?_
    refine zP_puti lf_X13_107 (zSt_ob hs 74 13 rfl) rfl dX13_told_2 ?_
    refine zJ_aload_n dX13_told_5 rfl ?_
    refine zJ_iload_n dX13_told_6 rfl ?_
    refine zJ_iconst (v := nI 0) dX13_told_7 rfl ?_
    refine zJ_bipush (v := nI 12) dX13_told_8 rfl ?_
    refine zP_callSi [_, _, _] _ ls_X13_141 (k_in (d := d - 1) hl (by omega)) rfl (by omega) (Nat.le_of_ble_eq_true rfl) rfl dX13_told_10 ?_
    rw [show decide (¬ (nI 4) < (nI 0) ∧ (nI 4) ≤ (nI 12)) = true from in_ok (by omega) (by omega) (by omega)]
    refine zJ_if_ne 20 dX13_told_13 (by decide) (fun _ => ?_) (fun c13 => absurd c13 (by decide))
    refine zJ_iconst (v := nI 0) dX13_told_20 rfl ?_
    refine zJ_iconst (v := nI 1) dX13_told_21 rfl ?_
    refine zJ_iconst (v := nI 1) dX13_told_22 rfl ?_
    refine zP_callVi [_, _, _] _ lv_X13_186 (m_badF (d := d - 1) hl (by omega) hs thr_at) (zSt_ob hs 74 13 rfl) rfl (by omega) (Nat.le_of_ble_eq_true rfl) rfl dX13_told_23 ?_
    refine zJ_if_eq 31 dX13_told_26 (by decide) (fun _ => ?_) (fun c26 => absurd rfl c26)
    refine zJ_iload_n dX13_told_31 rfl ?_
    refine zJ_tabIn 112 dX13_told_32 (by decide) (by decide) rfl (by decide) ?_
    refine zJ_aload_n dX13_told_112 rfl ?_
    refine zJ_aload_n dX13_told_113 rfl ?_
    refine zP_getr lf_X13_70 (zSt_ob hs 74 13 rfl) rfl (zSt_rf hs 74 30 533 rfl) dX13_told_114 ?_
    refine zP_callVi [_] _ lv_X13_383 (m_joinedOnes (d := d - 1) hl (by omega) hs hB0 ha hR0) (zSt_ob hs 74 13 rfl) rfl (by omega) (Nat.le_of_ble_eq_true rfl) rfl dX13_told_117 ?_
    refine zJ_iret rfl dX13_told_120 ?_
    exact ⟨_, _, rfl, rfl, rfl, thr_at, rQ_thr⟩
  · skip
    refine zJ_aload_n dX13_told_0 rfl ?_
    refine zJ_iconst (v := nI 0) dX13_told_1 rfl ?_
    refine zP_puti lf_X13_107 (zSt_ob hs 74 13 rfl) rfl dX13_told_2 ?_
    refine zJ_aload_n dX13_told_5 rfl ?_
    refine zJ_iload_n dX13_told_6 rfl ?_
    refine zJ_iconst (v := nI 0) dX13_told_7 rfl ?_
    refine zJ_bipush (v := nI 12) dX13_told_8 rfl ?_
    refine zP_callSi [_, _, _] _ ls_X13_141 (k_in (d := d - 1) hl (by omega)) rfl (by omega) (Nat.le_of_ble_eq_true rfl) rfl dX13_told_10 ?_
    rw [show decide (¬ (nI 5) < (nI 0) ∧ (nI 5) ≤ (nI 12)) = true from in_ok (by omega) (by omega) (by omega)]
    refine zJ_if_ne 20 dX13_told_13 (by decide) (fun _ => ?_) (fun c13 => absurd c13 (by decide))
    refine zJ_iconst (v := nI 0) dX13_told_20 rfl ?_
    refine zJ_iconst (v := nI 1) dX13_told_21 rfl ?_
    refine zJ_iconst (v := nI 1) dX13_told_22 rfl ?_
    refine zP_callVi [_, _, _] _ lv_X13_186 (m_badF (d := d - 1) hl (by omega) hs thr_at) (zSt_ob hs 74 13 rfl) rfl (by omega) (Nat.le_of_ble_eq_true rfl) rfl dX13_told_23 ?_
    refine zJ_if_eq 31 dX13_told_26 (by decide) (fun _ => ?_) (fun c26 => absurd rfl c26)
    refine zJ_iload_n dX13_told_31 rfl ?_
    refine zJ_tabIn 121 dX13_told_32 (by decide) (by decide) rfl (by decide) ?_
    refine zJ_aload_n dX13_told_121 rfl ?_
    refine zJ_aload_n dX13_told_122 rfl ?_
    refine zP_getr lf_X13_70 (zSt_ob hs 74 13 rfl) rfl (zSt_rf hs 74 30 533 rfl) dX13_told_123 ?_
    refine zP_callVi [_] _ lv_X13_387 (m_overs (d := d - 1) hl (by omega) hs hB0 ha hR0 hok.2.1) (zSt_ob hs 74 13 rfl) rfl (by omega) (Nat.le_of_ble_eq_true rfl) rfl dX13_told_126 ?_
    refine zJ_iret rfl dX13_told_129 ?_
    exact ⟨_, _, rfl, rfl, rfl, thr_at, rQ_thr⟩
  · skip
    refine zJ_aload_n dX13_told_0 rfl ?_
    refine zJ_iconst (v := nI 0) dX13_told_1 rfl ?_
    refine zP_puti lf_X13_107 (zSt_ob hs 74 13 rfl) rfl dX13_told_2 ?_
    refine zJ_aload_n dX13_told_5 rfl ?_
    refine zJ_iload_n dX13_told_6 rfl ?_
    refine zJ_iconst (v := nI 0) dX13_told_7 rfl ?_
    refine zJ_bipush (v := nI 12) dX13_told_8 rfl ?_
    refine zP_callSi [_, _, _] _ ls_X13_141 (k_in (d := d - 1) hl (by omega)) rfl (by omega) (Nat.le_of_ble_eq_true rfl) rfl dX13_told_10 ?_
    rw [show decide (¬ (nI 6) < (nI 0) ∧ (nI 6) ≤ (nI 12)) = true from in_ok (by omega) (by omega) (by omega)]
    refine zJ_if_ne 20 dX13_told_13 (by decide) (fun _ => ?_) (fun c13 => absurd c13 (by decide))
    refine zJ_iconst (v := nI 0) dX13_told_20 rfl ?_
    refine zJ_iconst (v := nI 1) dX13_told_21 rfl ?_
    refine zJ_iconst (v := nI 1) dX13_told_22 rfl ?_
    refine zP_callVi [_, _, _] _ lv_X13_186 (m_badF (d := d - 1) hl (by omega) hs thr_at) (zSt_ob hs 74 13 rfl) rfl (by omega) (Nat.le_of_ble_eq_true rfl) rfl dX13_told_23 ?_
    refine zJ_if_eq 31 dX13_told_26 (by decide) (fun _ => ?_) (fun c26 => absurd rfl c26)
    refine zJ_iload_n dX13_told_31 rfl ?_
    refine zJ_tabIn 130 dX13_told_32 (by decide) (by decide) rfl (by decide) ?_
    refine zJ_aload_n dX13_told_130 rfl ?_
    refine zJ_aload_n dX13_told_131 rfl ?_
    refine zP_getr lf_X13_70 (zSt_ob hs 74 13 rfl) rfl (zSt_rf hs 74 30 533 rfl) dX13_told_132 ?_
    refine zP_callVi [_] _ lv_X13_396 (m_isDone (d := d - 1) hl (by omega) hs hB0 ha hR0 hok.2.1) (zSt_ob hs 74 13 rfl) rfl (by omega) (Nat.le_of_ble_eq_true rfl) rfl dX13_told_135 ?_
    refine zJ_if_eq 145 dX13_told_138 (by decide) (fun c138 => ?_) (fun c138 => ?_)
    · replace c138 := zb0.mp c138
      refine zJ_iconst (v := nI 0) dX13_told_145 rfl ?_
      refine zJ_iret rfl dX13_told_146 ?_
      exact ⟨_, _, rfl, rfl, by show _ = (if sDone S.2.1 S.2.2.1 then _ else _); rw [c138]; rfl, thr_at, rQ_thr⟩
    · replace c138 := zb1.mp c138
      refine zJ_iconst (v := nI 1) dX13_told_141 rfl ?_
      refine zJ_goto 146 dX13_told_142 (by decide) ?_
      refine zJ_iret rfl dX13_told_146 ?_
      exact ⟨_, _, rfl, rfl, by show _ = (if sDone S.2.1 S.2.2.1 then _ else _); rw [c138]; rfl, thr_at, rQ_thr⟩
  · skip
    refine zJ_aload_n dX13_told_0 rfl ?_
    refine zJ_iconst (v := nI 0) dX13_told_1 rfl ?_
    refine zP_puti lf_X13_107 (zSt_ob hs 74 13 rfl) rfl dX13_told_2 ?_
    refine zJ_aload_n dX13_told_5 rfl ?_
    refine zJ_iload_n dX13_told_6 rfl ?_
    refine zJ_iconst (v := nI 0) dX13_told_7 rfl ?_
    refine zJ_bipush (v := nI 12) dX13_told_8 rfl ?_
    refine zP_callSi [_, _, _] _ ls_X13_141 (k_in (d := d - 1) hl (by omega)) rfl (by omega) (Nat.le_of_ble_eq_true rfl) rfl dX13_told_10 ?_
    rw [show decide (¬ (nI 7) < (nI 0) ∧ (nI 7) ≤ (nI 12)) = true from in_ok (by omega) (by omega) (by omega)]
    refine zJ_if_ne 20 dX13_told_13 (by decide) (fun _ => ?_) (fun c13 => absurd c13 (by decide))
    refine zJ_iconst (v := nI 0) dX13_told_20 rfl ?_
    refine zJ_iconst (v := nI 1) dX13_told_21 rfl ?_
    refine zJ_iconst (v := nI 1) dX13_told_22 rfl ?_
    refine zP_callVi [_, _, _] _ lv_X13_186 (m_badF (d := d - 1) hl (by omega) hs thr_at) (zSt_ob hs 74 13 rfl) rfl (by omega) (Nat.le_of_ble_eq_true rfl) rfl dX13_told_23 ?_
    refine zJ_if_eq 31 dX13_told_26 (by decide) (fun _ => ?_) (fun c26 => absurd rfl c26)
    refine zJ_iload_n dX13_told_31 rfl ?_
    refine zJ_tabIn 147 dX13_told_32 (by decide) (by decide) rfl (by decide) ?_
    refine zJ_aload_n dX13_told_147 rfl ?_
    refine zP_callVi [] _ lv_X13_400 (m_late (d := d - 1) hl (by omega) hs hB0 hR0 hok.2.1) (zSt_ob hs 74 13 rfl) rfl (by omega) (Nat.le_of_ble_eq_true rfl) rfl dX13_told_148 ?_
    refine zJ_iret rfl dX13_told_151 ?_
    exact ⟨_, _, rfl, rfl, rfl, thr_at, rQ_thr⟩
  · skip
    refine zJ_aload_n dX13_told_0 rfl ?_
    refine zJ_iconst (v := nI 0) dX13_told_1 rfl ?_
    refine zP_puti lf_X13_107 (zSt_ob hs 74 13 rfl) rfl dX13_told_2 ?_
    refine zJ_aload_n dX13_told_5 rfl ?_
    refine zJ_iload_n dX13_told_6 rfl ?_
    refine zJ_iconst (v := nI 0) dX13_told_7 rfl ?_
    refine zJ_bipush (v := nI 12) dX13_told_8 rfl ?_
    refine zP_callSi [_, _, _] _ ls_X13_141 (k_in (d := d - 1) hl (by omega)) rfl (by omega) (Nat.le_of_ble_eq_true rfl) rfl dX13_told_10 ?_
    rw [show decide (¬ (nI 8) < (nI 0) ∧ (nI 8) ≤ (nI 12)) = true from in_ok (by omega) (by omega) (by omega)]
    refine zJ_if_ne 20 dX13_told_13 (by decide) (fun _ => ?_) (fun c13 => absurd c13 (by decide))
    refine zJ_iconst (v := nI 0) dX13_told_20 rfl ?_
    refine zJ_iconst (v := nI 1) dX13_told_21 rfl ?_
    refine zJ_iconst (v := nI 1) dX13_told_22 rfl ?_
    refine zP_callVi [_, _, _] _ lv_X13_186 (m_badF (d := d - 1) hl (by omega) hs thr_at) (zSt_ob hs 74 13 rfl) rfl (by omega) (Nat.le_of_ble_eq_true rfl) rfl dX13_told_23 ?_
    refine zJ_if_eq 31 dX13_told_26 (by decide) (fun _ => ?_) (fun c26 => absurd rfl c26)
    refine zJ_iload_n dX13_told_31 rfl ?_
    refine zJ_tabIn 152 dX13_told_32 (by decide) (by decide) rfl (by decide) ?_
    refine zJ_aload_n dX13_told_152 rfl ?_
    refine zJ_aload_n dX13_told_153 rfl ?_
    refine zP_getr lf_X13_70 (zSt_ob hs 74 13 rfl) rfl (zSt_rf hs 74 30 533 rfl) dX13_told_154 ?_
    refine zP_callVi [_] _ lv_X13_403 (m_placesOfAll (d := d - 1) hl (by omega) hs hB0 ha hR0 hok.2.1) (zSt_ob hs 74 13 rfl) rfl (by omega) (Nat.le_of_ble_eq_true rfl) rfl dX13_told_157 ?_
    refine zJ_iret rfl dX13_told_160 ?_
    exact ⟨_, _, rfl, rfl, rfl, thr_at, rQ_thr⟩
  · skip
    refine zJ_aload_n dX13_told_0 rfl ?_
    refine zJ_iconst (v := nI 0) dX13_told_1 rfl ?_
    refine zP_puti lf_X13_107 (zSt_ob hs 74 13 rfl) rfl dX13_told_2 ?_
    refine zJ_aload_n dX13_told_5 rfl ?_
    refine zJ_iload_n dX13_told_6 rfl ?_
    refine zJ_iconst (v := nI 0) dX13_told_7 rfl ?_
    refine zJ_bipush (v := nI 12) dX13_told_8 rfl ?_
    refine zP_callSi [_, _, _] _ ls_X13_141 (k_in (d := d - 1) hl (by omega)) rfl (by omega) (Nat.le_of_ble_eq_true rfl) rfl dX13_told_10 ?_
    rw [show decide (¬ (nI 9) < (nI 0) ∧ (nI 9) ≤ (nI 12)) = true from in_ok (by omega) (by omega) (by omega)]
    refine zJ_if_ne 20 dX13_told_13 (by decide) (fun _ => ?_) (fun c13 => absurd c13 (by decide))
    refine zJ_iconst (v := nI 0) dX13_told_20 rfl ?_
    refine zJ_iconst (v := nI 1) dX13_told_21 rfl ?_
    refine zJ_iconst (v := nI 1) dX13_told_22 rfl ?_
    refine zP_callVi [_, _, _] _ lv_X13_186 (m_badF (d := d - 1) hl (by omega) hs thr_at) (zSt_ob hs 74 13 rfl) rfl (by omega) (Nat.le_of_ble_eq_true rfl) rfl dX13_told_23 ?_
    refine zJ_if_eq 31 dX13_told_26 (by decide) (fun _ => ?_) (fun c26 => absurd rfl c26)
    refine zJ_iload_n dX13_told_31 rfl ?_
    refine zJ_tabIn 161 dX13_told_32 (by decide) (by decide) rfl (by decide) ?_
    refine zJ_aload_n dX13_told_161 rfl ?_
    refine zP_getr lf_X13_23 (zSt_ob hs 74 13 rfl) rfl (zSt_rf hs 74 12 78 rfl) dX13_told_162 ?_
    refine zJ_iconst (v := nI 3) dX13_told_165 rfl ?_
    refine zP_iald (zSt_ar hs 78 4 rfl) (by first | assumption | with_reducible exact vp_in_nI (by omega) (by omega) | (simp (disch := omega) only [nI_add, pk_mul, pk_sub, pk_div, pk_rem, nI_clamp]; with_reducible exact vp_in_nI (by omega) (by omega))) dX13_told_166 ?_
    refine zJ_iret rfl dX13_told_167 ?_
    exact ⟨_, _, rfl, rfl, by rw [nI_clamp (by omega)]; exact hB0.2.1.2.2.2, thr_at, rQ_thr⟩
  · skip
    refine zJ_aload_n dX13_told_0 rfl ?_
    refine zJ_iconst (v := nI 0) dX13_told_1 rfl ?_
    refine zP_puti lf_X13_107 (zSt_ob hs 74 13 rfl) rfl dX13_told_2 ?_
    refine zJ_aload_n dX13_told_5 rfl ?_
    refine zJ_iload_n dX13_told_6 rfl ?_
    refine zJ_iconst (v := nI 0) dX13_told_7 rfl ?_
    refine zJ_bipush (v := nI 12) dX13_told_8 rfl ?_
    refine zP_callSi [_, _, _] _ ls_X13_141 (k_in (d := d - 1) hl (by omega)) rfl (by omega) (Nat.le_of_ble_eq_true rfl) rfl dX13_told_10 ?_
    rw [show decide (¬ (nI 10) < (nI 0) ∧ (nI 10) ≤ (nI 12)) = true from in_ok (by omega) (by omega) (by omega)]
    refine zJ_if_ne 20 dX13_told_13 (by decide) (fun _ => ?_) (fun c13 => absurd c13 (by decide))
    refine zJ_iconst (v := nI 0) dX13_told_20 rfl ?_
    refine zJ_iconst (v := nI 1) dX13_told_21 rfl ?_
    refine zJ_iconst (v := nI 1) dX13_told_22 rfl ?_
    refine zP_callVi [_, _, _] _ lv_X13_186 (m_badF (d := d - 1) hl (by omega) hs thr_at) (zSt_ob hs 74 13 rfl) rfl (by omega) (Nat.le_of_ble_eq_true rfl) rfl dX13_told_23 ?_
    refine zJ_if_eq 31 dX13_told_26 (by decide) (fun _ => ?_) (fun c26 => absurd rfl c26)
    refine zJ_iload_n dX13_told_31 rfl ?_
    refine zJ_tabIn 168 dX13_told_32 (by decide) (by decide) rfl (by decide) ?_
    refine zJ_aload_n dX13_told_168 rfl ?_
    refine zP_geti lf_X13_215 (zSt_ob hs 74 13 rfl) rfl dX13_told_169 ?_
    refine zJ_iret rfl dX13_told_172 ?_
    exact ⟨_, _, rfl, rfl, hI0.2.2.2.2.1.1, thr_at, rQ_thr⟩
  · skip
    refine zJ_aload_n dX13_told_0 rfl ?_
    refine zJ_iconst (v := nI 0) dX13_told_1 rfl ?_
    refine zP_puti lf_X13_107 (zSt_ob hs 74 13 rfl) rfl dX13_told_2 ?_
    refine zJ_aload_n dX13_told_5 rfl ?_
    refine zJ_iload_n dX13_told_6 rfl ?_
    refine zJ_iconst (v := nI 0) dX13_told_7 rfl ?_
    refine zJ_bipush (v := nI 12) dX13_told_8 rfl ?_
    refine zP_callSi [_, _, _] _ ls_X13_141 (k_in (d := d - 1) hl (by omega)) rfl (by omega) (Nat.le_of_ble_eq_true rfl) rfl dX13_told_10 ?_
    rw [show decide (¬ (nI 11) < (nI 0) ∧ (nI 11) ≤ (nI 12)) = true from in_ok (by omega) (by omega) (by omega)]
    refine zJ_if_ne 20 dX13_told_13 (by decide) (fun _ => ?_) (fun c13 => absurd c13 (by decide))
    refine zJ_iconst (v := nI 0) dX13_told_20 rfl ?_
    refine zJ_iconst (v := nI 1) dX13_told_21 rfl ?_
    refine zJ_iconst (v := nI 1) dX13_told_22 rfl ?_
    refine zP_callVi [_, _, _] _ lv_X13_186 (m_badF (d := d - 1) hl (by omega) hs thr_at) (zSt_ob hs 74 13 rfl) rfl (by omega) (Nat.le_of_ble_eq_true rfl) rfl dX13_told_23 ?_
    refine zJ_if_eq 31 dX13_told_26 (by decide) (fun _ => ?_) (fun c26 => absurd rfl c26)
    refine zJ_iload_n dX13_told_31 rfl ?_
    refine zJ_tabIn 173 dX13_told_32 (by decide) (by decide) rfl (by decide) ?_
    refine zJ_aload_n dX13_told_173 rfl ?_
    refine zP_geti lf_X13_221 (zSt_ob hs 74 13 rfl) rfl dX13_told_174 ?_
    refine zJ_iret rfl dX13_told_177 ?_
    exact ⟨_, _, rfl, rfl, hI0.2.2.2.2.2.2.2.1, thr_at, rQ_thr⟩
  · skip
    refine zJ_aload_n dX13_told_0 rfl ?_
    refine zJ_iconst (v := nI 0) dX13_told_1 rfl ?_
    refine zP_puti lf_X13_107 (zSt_ob hs 74 13 rfl) rfl dX13_told_2 ?_
    refine zJ_aload_n dX13_told_5 rfl ?_
    refine zJ_iload_n dX13_told_6 rfl ?_
    refine zJ_iconst (v := nI 0) dX13_told_7 rfl ?_
    refine zJ_bipush (v := nI 12) dX13_told_8 rfl ?_
    refine zP_callSi [_, _, _] _ ls_X13_141 (k_in (d := d - 1) hl (by omega)) rfl (by omega) (Nat.le_of_ble_eq_true rfl) rfl dX13_told_10 ?_
    rw [show decide (¬ (nI 12) < (nI 0) ∧ (nI 12) ≤ (nI 12)) = true from in_ok (by omega) (by omega) (by omega)]
    refine zJ_if_ne 20 dX13_told_13 (by decide) (fun _ => ?_) (fun c13 => absurd c13 (by decide))
    refine zJ_iconst (v := nI 0) dX13_told_20 rfl ?_
    refine zJ_iconst (v := nI 1) dX13_told_21 rfl ?_
    refine zJ_iconst (v := nI 1) dX13_told_22 rfl ?_
    refine zP_callVi [_, _, _] _ lv_X13_186 (m_badF (d := d - 1) hl (by omega) hs thr_at) (zSt_ob hs 74 13 rfl) rfl (by omega) (Nat.le_of_ble_eq_true rfl) rfl dX13_told_23 ?_
    refine zJ_if_eq 31 dX13_told_26 (by decide) (fun _ => ?_) (fun c26 => absurd rfl c26)
    refine zJ_iload_n dX13_told_31 rfl ?_
    refine zJ_tabOut 178 dX13_told_32 (by decide) (by decide) ?_
    refine zJ_aload_n dX13_told_178 rfl ?_
    refine zP_getr lf_X13_70 (zSt_ob hs 74 13 rfl) rfl (zSt_rf hs 74 30 533 rfl) dX13_told_179 ?_
    refine zJ_sipush (v := nI 448) dX13_told_182 rfl ?_
    refine zP_callSi [_, _] _ ls_X13_406 (m_sumOf (d := d - 1) hl (by omega) ha hR0 (k := 448) (by omega)) rfl (by omega) (Nat.le_of_ble_eq_true rfl) rfl dX13_told_185 ?_
    refine zJ_iret rfl dX13_told_188 ?_
    exact ⟨_, _, rfl, rfl, rfl, thr_at, rQ_thr⟩
set_option maxHeartbeats 1000000 in
theorem m_net (hl : l.stackTraces = false) (hd : 12 ≤ d) (hs : zSt g) {S : sT} (hI : rI I S) (hok : okS S) {n k : Nat} (hn : n < bN S.2.1) (hk : k ≤ 10) : zEi l Xi mX13_net d [.ref 74, .int (nI n), .int (nI k)] I g (fun v J => v = netV S.2.1 S.2.2.1 n k ∧ J 74 0 = nI 0 ∧ rQ I J) := by
  refine zC_of hl rfl rfl rfl (Nat.le_of_ble_eq_true rfl) (zav_r (zSt_ob hs 74 13 rfl).1 (zav_i (zav_i zav_0))) ?_
  have hI0 := rI_rQ hI (rQ_thr (x := nI 0))
  have hB0 := hI0.2.2.1
  have hR0 := hI0.2.2.2.1
  have hb := hB0.1
  have hN6 := hb.2.2.2.2.1
  have hC8 := hb.2.1
  have hR8 := hb.2.2.2.1
  have ha := zSt_ar hs 533 519 rfl
  have hkk : k = 0 ∨ k = 1 ∨ k = 2 ∨ k = 3 ∨ k = 4 ∨ k = 5 ∨ k = 6 ∨ k = 7 ∨ k = 8 ∨ k = 9 ∨ k = 10 := by omega
  rcases hkk with rfl | rfl | rfl | rfl | rfl | rfl | rfl | rfl | rfl | rfl | rfl
  · skip
    refine zJ_aload_n dX13_net_0 rfl ?_
    refine zJ_iconst (v := nI 0) dX13_net_1 rfl ?_
    refine zP_puti lf_X13_107 (zSt_ob hs 74 13 rfl) rfl dX13_net_2 ?_
    refine zJ_aload_n dX13_net_5 rfl ?_
    refine zJ_aload_n dX13_net_6 rfl ?_
    refine zJ_iload_n dX13_net_7 rfl ?_
    refine zP_callVi [_] _ lv_X13_412 (m_isNet (d := d - 1) hl (by omega) hs hB0) (zSt_ob hs 74 13 rfl) rfl (by omega) (Nat.le_of_ble_eq_true rfl) rfl dX13_net_8 ?_
    rw [qNet_ok hb hn]
    refine zJ_if_ne 18 dX13_net_11 (by decide) (fun _ => ?_) (fun c11 => absurd c11 (by decide))
    refine zJ_iconst (v := nI 0) dX13_net_18 rfl ?_
    refine zJ_iconst (v := nI 1) dX13_net_19 rfl ?_
    refine zJ_iconst (v := nI 0) dX13_net_20 rfl ?_
    refine zP_callVi [_, _, _] _ lv_X13_186 (m_badF (d := d - 1) hl (by omega) hs thr_at) (zSt_ob hs 74 13 rfl) rfl (by omega) (Nat.le_of_ble_eq_true rfl) rfl dX13_net_21 ?_
    refine zJ_if_ne 51 dX13_net_24 (by decide) (fun c24 => absurd rfl c24) (fun _ => ?_)
    refine zJ_aload_n dX13_net_27 rfl ?_
    refine zJ_iload_n dX13_net_28 rfl ?_
    refine zJ_iconst (v := nI 0) dX13_net_29 rfl ?_
    refine zJ_bipush (v := nI 10) dX13_net_30 rfl ?_
    refine zP_callSi [_, _, _] _ ls_X13_141 (k_in (d := d - 1) hl (by omega)) rfl (by omega) (Nat.le_of_ble_eq_true rfl) rfl dX13_net_32 ?_
    rw [show decide (¬ (nI 0) < (nI 0) ∧ (nI 0) ≤ (nI 10)) = true from in_ok (by omega) (by omega) (by omega)]
    refine zJ_if_ne 42 dX13_net_35 (by decide) (fun _ => ?_) (fun c35 => absurd c35 (by decide))
    refine zJ_iconst (v := nI 0) dX13_net_42 rfl ?_
    refine zJ_iconst (v := nI 2) dX13_net_43 rfl ?_
    refine zJ_iconst (v := nI 1) dX13_net_44 rfl ?_
    refine zP_callVi [_, _, _] _ lv_X13_186 (m_badF (d := d - 1) hl (by omega) hs thr_at) (zSt_ob hs 74 13 rfl) rfl (by omega) (Nat.le_of_ble_eq_true rfl) rfl dX13_net_45 ?_
    refine zJ_if_eq 53 dX13_net_48 (by decide) (fun _ => ?_) (fun c48 => absurd rfl c48)
    refine zJ_iload_n dX13_net_53 rfl ?_
    refine zJ_tabIn 112 dX13_net_54 (by decide) (by decide) rfl (by decide) ?_
    refine zJ_aload_n dX13_net_112 rfl ?_
    refine zP_getr lf_X13_70 (zSt_ob hs 74 13 rfl) rfl (zSt_rf hs 74 30 533 rfl) dX13_net_113 ?_
    refine zJ_sipush (v := nI 512) dX13_net_116 rfl ?_
    refine zJ_iload_n dX13_net_119 rfl ?_
    refine zJ_iadd dX13_net_120 ?_
    refine zP_iald (zSt_ar hs 533 519 rfl) (by rw [nI_add]; exact vp_in_nI (by omega) (by omega)) dX13_net_121 ?_
    refine zJ_iret rfl dX13_net_122 ?_
    exact ⟨_, _, rfl, rfl, by rw [nI_add, nI_clamp (by omega)]; exact hR0.2.1 _ hn, thr_at, rQ_thr⟩
  · skip
    refine zJ_aload_n dX13_net_0 rfl ?_
    refine zJ_iconst (v := nI 0) dX13_net_1 rfl ?_
    refine zP_puti lf_X13_107 (zSt_ob hs 74 13 rfl) rfl dX13_net_2 ?_
    refine zJ_aload_n dX13_net_5 rfl ?_
    refine zJ_aload_n dX13_net_6 rfl ?_
    refine zJ_iload_n dX13_net_7 rfl ?_
    refine zP_callVi [_] _ lv_X13_412 (m_isNet (d := d - 1) hl (by omega) hs hB0) (zSt_ob hs 74 13 rfl) rfl (by omega) (Nat.le_of_ble_eq_true rfl) rfl dX13_net_8 ?_
    rw [qNet_ok hb hn]
    refine zJ_if_ne 18 dX13_net_11 (by decide) (fun _ => ?_) (fun c11 => absurd c11 (by decide))
    refine zJ_iconst (v := nI 0) dX13_net_18 rfl ?_
    refine zJ_iconst (v := nI 1) dX13_net_19 rfl ?_
    refine zJ_iconst (v := nI 0) dX13_net_20 rfl ?_
    refine zP_callVi [_, _, _] _ lv_X13_186 (m_badF (d := d - 1) hl (by omega) hs thr_at) (zSt_ob hs 74 13 rfl) rfl (by omega) (Nat.le_of_ble_eq_true rfl) rfl dX13_net_21 ?_
    refine zJ_if_ne 51 dX13_net_24 (by decide) (fun c24 => absurd rfl c24) (fun _ => ?_)
    refine zJ_aload_n dX13_net_27 rfl ?_
    refine zJ_iload_n dX13_net_28 rfl ?_
    refine zJ_iconst (v := nI 0) dX13_net_29 rfl ?_
    refine zJ_bipush (v := nI 10) dX13_net_30 rfl ?_
    refine zP_callSi [_, _, _] _ ls_X13_141 (k_in (d := d - 1) hl (by omega)) rfl (by omega) (Nat.le_of_ble_eq_true rfl) rfl dX13_net_32 ?_
    rw [show decide (¬ (nI 1) < (nI 0) ∧ (nI 1) ≤ (nI 10)) = true from in_ok (by omega) (by omega) (by omega)]
    refine zJ_if_ne 42 dX13_net_35 (by decide) (fun _ => ?_) (fun c35 => absurd c35 (by decide))
    refine zJ_iconst (v := nI 0) dX13_net_42 rfl ?_
    refine zJ_iconst (v := nI 2) dX13_net_43 rfl ?_
    refine zJ_iconst (v := nI 1) dX13_net_44 rfl ?_
    refine zP_callVi [_, _, _] _ lv_X13_186 (m_badF (d := d - 1) hl (by omega) hs thr_at) (zSt_ob hs 74 13 rfl) rfl (by omega) (Nat.le_of_ble_eq_true rfl) rfl dX13_net_45 ?_
    refine zJ_if_eq 53 dX13_net_48 (by decide) (fun _ => ?_) (fun c48 => absurd rfl c48)
    refine zJ_iload_n dX13_net_53 rfl ?_
    refine zJ_tabIn 123 dX13_net_54 (by decide) (by decide) rfl (by decide) ?_
    refine zJ_aload_n dX13_net_123 rfl ?_
    refine zP_getr lf_X13_40 (zSt_ob hs 74 13 rfl) rfl (zSt_rf hs 74 17 89 rfl) dX13_net_124 ?_
    refine zJ_iload_n dX13_net_127 rfl ?_
    refine zP_rowK (k := n) (zSt_g89 hs) (by omega) (by decide) dX13_net_128 ?_
    refine zJ_iload_n dX13_net_129 rfl ?_
    refine zP_iald (zGr_ar (zSt_g89 hs) (i := n) (by omega)) (by first | assumption | with_reducible exact vp_in_nI (by omega) (by omega) | (simp (disch := omega) only [nI_add, pk_mul, pk_sub, pk_div, pk_rem, nI_clamp]; with_reducible exact vp_in_nI (by omega) (by omega))) dX13_net_130 ?_
    refine zJ_iret rfl dX13_net_131 ?_
    exact ⟨_, _, rfl, rfl, by rw [nI_clamp (by omega)]; exact (hB0.2.2.2.1 n hn).1, thr_at, rQ_thr⟩
  · skip
    refine zJ_aload_n dX13_net_0 rfl ?_
    refine zJ_iconst (v := nI 0) dX13_net_1 rfl ?_
    refine zP_puti lf_X13_107 (zSt_ob hs 74 13 rfl) rfl dX13_net_2 ?_
    refine zJ_aload_n dX13_net_5 rfl ?_
    refine zJ_aload_n dX13_net_6 rfl ?_
    refine zJ_iload_n dX13_net_7 rfl ?_
    refine zP_callVi [_] _ lv_X13_412 (m_isNet (d := d - 1) hl (by omega) hs hB0) (zSt_ob hs 74 13 rfl) rfl (by omega) (Nat.le_of_ble_eq_true rfl) rfl dX13_net_8 ?_
    rw [qNet_ok hb hn]
    refine zJ_if_ne 18 dX13_net_11 (by decide) (fun _ => ?_) (fun c11 => absurd c11 (by decide))
    refine zJ_iconst (v := nI 0) dX13_net_18 rfl ?_
    refine zJ_iconst (v := nI 1) dX13_net_19 rfl ?_
    refine zJ_iconst (v := nI 0) dX13_net_20 rfl ?_
    refine zP_callVi [_, _, _] _ lv_X13_186 (m_badF (d := d - 1) hl (by omega) hs thr_at) (zSt_ob hs 74 13 rfl) rfl (by omega) (Nat.le_of_ble_eq_true rfl) rfl dX13_net_21 ?_
    refine zJ_if_ne 51 dX13_net_24 (by decide) (fun c24 => absurd rfl c24) (fun _ => ?_)
    refine zJ_aload_n dX13_net_27 rfl ?_
    refine zJ_iload_n dX13_net_28 rfl ?_
    refine zJ_iconst (v := nI 0) dX13_net_29 rfl ?_
    refine zJ_bipush (v := nI 10) dX13_net_30 rfl ?_
    refine zP_callSi [_, _, _] _ ls_X13_141 (k_in (d := d - 1) hl (by omega)) rfl (by omega) (Nat.le_of_ble_eq_true rfl) rfl dX13_net_32 ?_
    rw [show decide (¬ (nI 2) < (nI 0) ∧ (nI 2) ≤ (nI 10)) = true from in_ok (by omega) (by omega) (by omega)]
    refine zJ_if_ne 42 dX13_net_35 (by decide) (fun _ => ?_) (fun c35 => absurd c35 (by decide))
    refine zJ_iconst (v := nI 0) dX13_net_42 rfl ?_
    refine zJ_iconst (v := nI 2) dX13_net_43 rfl ?_
    refine zJ_iconst (v := nI 1) dX13_net_44 rfl ?_
    refine zP_callVi [_, _, _] _ lv_X13_186 (m_badF (d := d - 1) hl (by omega) hs thr_at) (zSt_ob hs 74 13 rfl) rfl (by omega) (Nat.le_of_ble_eq_true rfl) rfl dX13_net_45 ?_
    refine zJ_if_eq 53 dX13_net_48 (by decide) (fun _ => ?_) (fun c48 => absurd rfl c48)
    refine zJ_iload_n dX13_net_53 rfl ?_
    refine zJ_tabIn 123 dX13_net_54 (by decide) (by decide) rfl (by decide) ?_
    refine zJ_aload_n dX13_net_123 rfl ?_
    refine zP_getr lf_X13_40 (zSt_ob hs 74 13 rfl) rfl (zSt_rf hs 74 17 89 rfl) dX13_net_124 ?_
    refine zJ_iload_n dX13_net_127 rfl ?_
    refine zP_rowK (k := n) (zSt_g89 hs) (by omega) (by decide) dX13_net_128 ?_
    refine zJ_iload_n dX13_net_129 rfl ?_
    refine zP_iald (zGr_ar (zSt_g89 hs) (i := n) (by omega)) (by first | assumption | with_reducible exact vp_in_nI (by omega) (by omega) | (simp (disch := omega) only [nI_add, pk_mul, pk_sub, pk_div, pk_rem, nI_clamp]; with_reducible exact vp_in_nI (by omega) (by omega))) dX13_net_130 ?_
    refine zJ_iret rfl dX13_net_131 ?_
    exact ⟨_, _, rfl, rfl, by rw [nI_clamp (by omega)]; exact (hB0.2.2.2.1 n hn).2, thr_at, rQ_thr⟩
  · skip
    refine zJ_aload_n dX13_net_0 rfl ?_
    refine zJ_iconst (v := nI 0) dX13_net_1 rfl ?_
    refine zP_puti lf_X13_107 (zSt_ob hs 74 13 rfl) rfl dX13_net_2 ?_
    refine zJ_aload_n dX13_net_5 rfl ?_
    refine zJ_aload_n dX13_net_6 rfl ?_
    refine zJ_iload_n dX13_net_7 rfl ?_
    refine zP_callVi [_] _ lv_X13_412 (m_isNet (d := d - 1) hl (by omega) hs hB0) (zSt_ob hs 74 13 rfl) rfl (by omega) (Nat.le_of_ble_eq_true rfl) rfl dX13_net_8 ?_
    rw [qNet_ok hb hn]
    refine zJ_if_ne 18 dX13_net_11 (by decide) (fun _ => ?_) (fun c11 => absurd c11 (by decide))
    refine zJ_iconst (v := nI 0) dX13_net_18 rfl ?_
    refine zJ_iconst (v := nI 1) dX13_net_19 rfl ?_
    refine zJ_iconst (v := nI 0) dX13_net_20 rfl ?_
    refine zP_callVi [_, _, _] _ lv_X13_186 (m_badF (d := d - 1) hl (by omega) hs thr_at) (zSt_ob hs 74 13 rfl) rfl (by omega) (Nat.le_of_ble_eq_true rfl) rfl dX13_net_21 ?_
    refine zJ_if_ne 51 dX13_net_24 (by decide) (fun c24 => absurd rfl c24) (fun _ => ?_)
    refine zJ_aload_n dX13_net_27 rfl ?_
    refine zJ_iload_n dX13_net_28 rfl ?_
    refine zJ_iconst (v := nI 0) dX13_net_29 rfl ?_
    refine zJ_bipush (v := nI 10) dX13_net_30 rfl ?_
    refine zP_callSi [_, _, _] _ ls_X13_141 (k_in (d := d - 1) hl (by omega)) rfl (by omega) (Nat.le_of_ble_eq_true rfl) rfl dX13_net_32 ?_
    rw [show decide (¬ (nI 3) < (nI 0) ∧ (nI 3) ≤ (nI 10)) = true from in_ok (by omega) (by omega) (by omega)]
    refine zJ_if_ne 42 dX13_net_35 (by decide) (fun _ => ?_) (fun c35 => absurd c35 (by decide))
    refine zJ_iconst (v := nI 0) dX13_net_42 rfl ?_
    refine zJ_iconst (v := nI 2) dX13_net_43 rfl ?_
    refine zJ_iconst (v := nI 1) dX13_net_44 rfl ?_
    refine zP_callVi [_, _, _] _ lv_X13_186 (m_badF (d := d - 1) hl (by omega) hs thr_at) (zSt_ob hs 74 13 rfl) rfl (by omega) (Nat.le_of_ble_eq_true rfl) rfl dX13_net_45 ?_
    refine zJ_if_eq 53 dX13_net_48 (by decide) (fun _ => ?_) (fun c48 => absurd rfl c48)
    refine zJ_iload_n dX13_net_53 rfl ?_
    refine zJ_tabIn 132 dX13_net_54 (by decide) (by decide) rfl (by decide) ?_
    refine zJ_aload_n dX13_net_132 rfl ?_
    refine zP_getr lf_X13_70 (zSt_ob hs 74 13 rfl) rfl (zSt_rf hs 74 30 533 rfl) dX13_net_133 ?_
    refine zJ_iload_n dX13_net_136 rfl ?_
    refine zP_callSi [_, _] _ ls_X13_332 (m_placesOf (d := d - 1) hl (by omega) ha hR0 (by omega)) rfl (by omega) (Nat.le_of_ble_eq_true rfl) rfl dX13_net_137 ?_
    refine zJ_iret rfl dX13_net_140 ?_
    exact ⟨_, _, rfl, rfl, rfl, thr_at, rQ_thr⟩
  · skip
    refine zJ_aload_n dX13_net_0 rfl ?_
    refine zJ_iconst (v := nI 0) dX13_net_1 rfl ?_
    refine zP_puti lf_X13_107 (zSt_ob hs 74 13 rfl) rfl dX13_net_2 ?_
    refine zJ_aload_n dX13_net_5 rfl ?_
    refine zJ_aload_n dX13_net_6 rfl ?_
    refine zJ_iload_n dX13_net_7 rfl ?_
    refine zP_callVi [_] _ lv_X13_412 (m_isNet (d := d - 1) hl (by omega) hs hB0) (zSt_ob hs 74 13 rfl) rfl (by omega) (Nat.le_of_ble_eq_true rfl) rfl dX13_net_8 ?_
    rw [qNet_ok hb hn]
    refine zJ_if_ne 18 dX13_net_11 (by decide) (fun _ => ?_) (fun c11 => absurd c11 (by decide))
    refine zJ_iconst (v := nI 0) dX13_net_18 rfl ?_
    refine zJ_iconst (v := nI 1) dX13_net_19 rfl ?_
    refine zJ_iconst (v := nI 0) dX13_net_20 rfl ?_
    refine zP_callVi [_, _, _] _ lv_X13_186 (m_badF (d := d - 1) hl (by omega) hs thr_at) (zSt_ob hs 74 13 rfl) rfl (by omega) (Nat.le_of_ble_eq_true rfl) rfl dX13_net_21 ?_
    refine zJ_if_ne 51 dX13_net_24 (by decide) (fun c24 => absurd rfl c24) (fun _ => ?_)
    refine zJ_aload_n dX13_net_27 rfl ?_
    refine zJ_iload_n dX13_net_28 rfl ?_
    refine zJ_iconst (v := nI 0) dX13_net_29 rfl ?_
    refine zJ_bipush (v := nI 10) dX13_net_30 rfl ?_
    refine zP_callSi [_, _, _] _ ls_X13_141 (k_in (d := d - 1) hl (by omega)) rfl (by omega) (Nat.le_of_ble_eq_true rfl) rfl dX13_net_32 ?_
    rw [show decide (¬ (nI 4) < (nI 0) ∧ (nI 4) ≤ (nI 10)) = true from in_ok (by omega) (by omega) (by omega)]
    refine zJ_if_ne 42 dX13_net_35 (by decide) (fun _ => ?_) (fun c35 => absurd c35 (by decide))
    refine zJ_iconst (v := nI 0) dX13_net_42 rfl ?_
    refine zJ_iconst (v := nI 2) dX13_net_43 rfl ?_
    refine zJ_iconst (v := nI 1) dX13_net_44 rfl ?_
    refine zP_callVi [_, _, _] _ lv_X13_186 (m_badF (d := d - 1) hl (by omega) hs thr_at) (zSt_ob hs 74 13 rfl) rfl (by omega) (Nat.le_of_ble_eq_true rfl) rfl dX13_net_45 ?_
    refine zJ_if_eq 53 dX13_net_48 (by decide) (fun _ => ?_) (fun c48 => absurd rfl c48)
    refine zJ_iload_n dX13_net_53 rfl ?_
    refine zJ_tabIn 141 dX13_net_54 (by decide) (by decide) rfl (by decide) ?_
    refine zJ_aload_n dX13_net_141 rfl ?_
    refine zJ_aload_n dX13_net_142 rfl ?_
    refine zP_getr lf_X13_70 (zSt_ob hs 74 13 rfl) rfl (zSt_rf hs 74 30 533 rfl) dX13_net_143 ?_
    refine zJ_iload_n dX13_net_146 rfl ?_
    refine zP_callVi [_, _] _ lv_X13_341 (m_overOf (d := d - 1) hl (by omega) hs hB0 ha hR0 hok.2.1 hn) (zSt_ob hs 74 13 rfl) rfl (by omega) (Nat.le_of_ble_eq_true rfl) rfl dX13_net_147 ?_
    refine zJ_iret rfl dX13_net_150 ?_
    exact ⟨_, _, rfl, rfl, rfl, thr_at, rQ_thr⟩
  · skip
    refine zJ_aload_n dX13_net_0 rfl ?_
    refine zJ_iconst (v := nI 0) dX13_net_1 rfl ?_
    refine zP_puti lf_X13_107 (zSt_ob hs 74 13 rfl) rfl dX13_net_2 ?_
    refine zJ_aload_n dX13_net_5 rfl ?_
    refine zJ_aload_n dX13_net_6 rfl ?_
    refine zJ_iload_n dX13_net_7 rfl ?_
    refine zP_callVi [_] _ lv_X13_412 (m_isNet (d := d - 1) hl (by omega) hs hB0) (zSt_ob hs 74 13 rfl) rfl (by omega) (Nat.le_of_ble_eq_true rfl) rfl dX13_net_8 ?_
    rw [qNet_ok hb hn]
    refine zJ_if_ne 18 dX13_net_11 (by decide) (fun _ => ?_) (fun c11 => absurd c11 (by decide))
    refine zJ_iconst (v := nI 0) dX13_net_18 rfl ?_
    refine zJ_iconst (v := nI 1) dX13_net_19 rfl ?_
    refine zJ_iconst (v := nI 0) dX13_net_20 rfl ?_
    refine zP_callVi [_, _, _] _ lv_X13_186 (m_badF (d := d - 1) hl (by omega) hs thr_at) (zSt_ob hs 74 13 rfl) rfl (by omega) (Nat.le_of_ble_eq_true rfl) rfl dX13_net_21 ?_
    refine zJ_if_ne 51 dX13_net_24 (by decide) (fun c24 => absurd rfl c24) (fun _ => ?_)
    refine zJ_aload_n dX13_net_27 rfl ?_
    refine zJ_iload_n dX13_net_28 rfl ?_
    refine zJ_iconst (v := nI 0) dX13_net_29 rfl ?_
    refine zJ_bipush (v := nI 10) dX13_net_30 rfl ?_
    refine zP_callSi [_, _, _] _ ls_X13_141 (k_in (d := d - 1) hl (by omega)) rfl (by omega) (Nat.le_of_ble_eq_true rfl) rfl dX13_net_32 ?_
    rw [show decide (¬ (nI 5) < (nI 0) ∧ (nI 5) ≤ (nI 10)) = true from in_ok (by omega) (by omega) (by omega)]
    refine zJ_if_ne 42 dX13_net_35 (by decide) (fun _ => ?_) (fun c35 => absurd c35 (by decide))
    refine zJ_iconst (v := nI 0) dX13_net_42 rfl ?_
    refine zJ_iconst (v := nI 2) dX13_net_43 rfl ?_
    refine zJ_iconst (v := nI 1) dX13_net_44 rfl ?_
    refine zP_callVi [_, _, _] _ lv_X13_186 (m_badF (d := d - 1) hl (by omega) hs thr_at) (zSt_ob hs 74 13 rfl) rfl (by omega) (Nat.le_of_ble_eq_true rfl) rfl dX13_net_45 ?_
    refine zJ_if_eq 53 dX13_net_48 (by decide) (fun _ => ?_) (fun c48 => absurd rfl c48)
    refine zJ_iload_n dX13_net_53 rfl ?_
    refine zJ_tabIn 151 dX13_net_54 (by decide) (by decide) rfl (by decide) ?_
    refine zJ_aload_n dX13_net_151 rfl ?_
    refine zJ_aload_n dX13_net_152 rfl ?_
    refine zP_getr lf_X13_70 (zSt_ob hs 74 13 rfl) rfl (zSt_rf hs 74 30 533 rfl) dX13_net_153 ?_
    refine zJ_iload_n dX13_net_156 rfl ?_
    refine zP_callVi [_, _] _ lv_X13_393 (m_delay (d := d - 1) hl (by omega) hs hB0 ha hR0 hok.2.1 hn) (zSt_ob hs 74 13 rfl) rfl (by omega) (Nat.le_of_ble_eq_true rfl) rfl dX13_net_157 ?_
    refine zJ_iret rfl dX13_net_160 ?_
    exact ⟨_, _, rfl, rfl, rfl, thr_at, rQ_thr⟩
  · skip
    refine zJ_aload_n dX13_net_0 rfl ?_
    refine zJ_iconst (v := nI 0) dX13_net_1 rfl ?_
    refine zP_puti lf_X13_107 (zSt_ob hs 74 13 rfl) rfl dX13_net_2 ?_
    refine zJ_aload_n dX13_net_5 rfl ?_
    refine zJ_aload_n dX13_net_6 rfl ?_
    refine zJ_iload_n dX13_net_7 rfl ?_
    refine zP_callVi [_] _ lv_X13_412 (m_isNet (d := d - 1) hl (by omega) hs hB0) (zSt_ob hs 74 13 rfl) rfl (by omega) (Nat.le_of_ble_eq_true rfl) rfl dX13_net_8 ?_
    rw [qNet_ok hb hn]
    refine zJ_if_ne 18 dX13_net_11 (by decide) (fun _ => ?_) (fun c11 => absurd c11 (by decide))
    refine zJ_iconst (v := nI 0) dX13_net_18 rfl ?_
    refine zJ_iconst (v := nI 1) dX13_net_19 rfl ?_
    refine zJ_iconst (v := nI 0) dX13_net_20 rfl ?_
    refine zP_callVi [_, _, _] _ lv_X13_186 (m_badF (d := d - 1) hl (by omega) hs thr_at) (zSt_ob hs 74 13 rfl) rfl (by omega) (Nat.le_of_ble_eq_true rfl) rfl dX13_net_21 ?_
    refine zJ_if_ne 51 dX13_net_24 (by decide) (fun c24 => absurd rfl c24) (fun _ => ?_)
    refine zJ_aload_n dX13_net_27 rfl ?_
    refine zJ_iload_n dX13_net_28 rfl ?_
    refine zJ_iconst (v := nI 0) dX13_net_29 rfl ?_
    refine zJ_bipush (v := nI 10) dX13_net_30 rfl ?_
    refine zP_callSi [_, _, _] _ ls_X13_141 (k_in (d := d - 1) hl (by omega)) rfl (by omega) (Nat.le_of_ble_eq_true rfl) rfl dX13_net_32 ?_
    rw [show decide (¬ (nI 6) < (nI 0) ∧ (nI 6) ≤ (nI 10)) = true from in_ok (by omega) (by omega) (by omega)]
    refine zJ_if_ne 42 dX13_net_35 (by decide) (fun _ => ?_) (fun c35 => absurd c35 (by decide))
    refine zJ_iconst (v := nI 0) dX13_net_42 rfl ?_
    refine zJ_iconst (v := nI 2) dX13_net_43 rfl ?_
    refine zJ_iconst (v := nI 1) dX13_net_44 rfl ?_
    refine zP_callVi [_, _, _] _ lv_X13_186 (m_badF (d := d - 1) hl (by omega) hs thr_at) (zSt_ob hs 74 13 rfl) rfl (by omega) (Nat.le_of_ble_eq_true rfl) rfl dX13_net_45 ?_
    refine zJ_if_eq 53 dX13_net_48 (by decide) (fun _ => ?_) (fun c48 => absurd rfl c48)
    refine zJ_iload_n dX13_net_53 rfl ?_
    refine zJ_tabIn 161 dX13_net_54 (by decide) (by decide) rfl (by decide) ?_
    refine zJ_aload_n dX13_net_161 rfl ?_
    refine zP_getr lf_X13_40 (zSt_ob hs 74 13 rfl) rfl (zSt_rf hs 74 17 89 rfl) dX13_net_162 ?_
    refine zJ_iload_n dX13_net_165 rfl ?_
    refine zP_rowK (k := n) (zSt_g89 hs) (by omega) (by decide) dX13_net_166 ?_
    refine zJ_iconst (v := nI 1) dX13_net_167 rfl ?_
    refine zP_iald (zGr_ar (zSt_g89 hs) (i := n) (by omega)) (by first | assumption | with_reducible exact vp_in_nI (by omega) (by omega) | (simp (disch := omega) only [nI_add, pk_mul, pk_sub, pk_div, pk_rem, nI_clamp]; with_reducible exact vp_in_nI (by omega) (by omega))) dX13_net_168 ?_
    refine zJ_aload_n dX13_net_169 rfl ?_
    refine zJ_aload_n dX13_net_170 rfl ?_
    refine zP_getr lf_X13_70 (zSt_ob hs 74 13 rfl) rfl (zSt_rf hs 74 30 533 rfl) dX13_net_171 ?_
    refine zJ_iload_n dX13_net_174 rfl ?_
    refine zP_callVi [_, _] _ lv_X13_393 (m_delay (d := d - 1) hl (by omega) hs hB0 ha hR0 hok.2.1 hn) (zSt_ob hs 74 13 rfl) rfl (by omega) (Nat.le_of_ble_eq_true rfl) rfl dX13_net_175 ?_
    refine zJ_isub dX13_net_178 ?_
    refine zJ_iret rfl dX13_net_179 ?_
    exact ⟨_, _, rfl, rfl, by rw [nI_clamp (by omega), (hB0.2.2.2.1 n hn).1]; rfl, thr_at, rQ_thr⟩
  · skip
    refine zJ_aload_n dX13_net_0 rfl ?_
    refine zJ_iconst (v := nI 0) dX13_net_1 rfl ?_
    refine zP_puti lf_X13_107 (zSt_ob hs 74 13 rfl) rfl dX13_net_2 ?_
    refine zJ_aload_n dX13_net_5 rfl ?_
    refine zJ_aload_n dX13_net_6 rfl ?_
    refine zJ_iload_n dX13_net_7 rfl ?_
    refine zP_callVi [_] _ lv_X13_412 (m_isNet (d := d - 1) hl (by omega) hs hB0) (zSt_ob hs 74 13 rfl) rfl (by omega) (Nat.le_of_ble_eq_true rfl) rfl dX13_net_8 ?_
    rw [qNet_ok hb hn]
    refine zJ_if_ne 18 dX13_net_11 (by decide) (fun _ => ?_) (fun c11 => absurd c11 (by decide))
    refine zJ_iconst (v := nI 0) dX13_net_18 rfl ?_
    refine zJ_iconst (v := nI 1) dX13_net_19 rfl ?_
    refine zJ_iconst (v := nI 0) dX13_net_20 rfl ?_
    refine zP_callVi [_, _, _] _ lv_X13_186 (m_badF (d := d - 1) hl (by omega) hs thr_at) (zSt_ob hs 74 13 rfl) rfl (by omega) (Nat.le_of_ble_eq_true rfl) rfl dX13_net_21 ?_
    refine zJ_if_ne 51 dX13_net_24 (by decide) (fun c24 => absurd rfl c24) (fun _ => ?_)
    refine zJ_aload_n dX13_net_27 rfl ?_
    refine zJ_iload_n dX13_net_28 rfl ?_
    refine zJ_iconst (v := nI 0) dX13_net_29 rfl ?_
    refine zJ_bipush (v := nI 10) dX13_net_30 rfl ?_
    refine zP_callSi [_, _, _] _ ls_X13_141 (k_in (d := d - 1) hl (by omega)) rfl (by omega) (Nat.le_of_ble_eq_true rfl) rfl dX13_net_32 ?_
    rw [show decide (¬ (nI 7) < (nI 0) ∧ (nI 7) ≤ (nI 10)) = true from in_ok (by omega) (by omega) (by omega)]
    refine zJ_if_ne 42 dX13_net_35 (by decide) (fun _ => ?_) (fun c35 => absurd c35 (by decide))
    refine zJ_iconst (v := nI 0) dX13_net_42 rfl ?_
    refine zJ_iconst (v := nI 2) dX13_net_43 rfl ?_
    refine zJ_iconst (v := nI 1) dX13_net_44 rfl ?_
    refine zP_callVi [_, _, _] _ lv_X13_186 (m_badF (d := d - 1) hl (by omega) hs thr_at) (zSt_ob hs 74 13 rfl) rfl (by omega) (Nat.le_of_ble_eq_true rfl) rfl dX13_net_45 ?_
    refine zJ_if_eq 53 dX13_net_48 (by decide) (fun _ => ?_) (fun c48 => absurd rfl c48)
    refine zJ_iload_n dX13_net_53 rfl ?_
    refine zJ_tabIn 198 dX13_net_54 (by decide) (by decide) rfl (by decide) ?_
    refine zJ_aload_n dX13_net_198 rfl ?_
    refine zJ_iload_n dX13_net_199 rfl ?_
    refine zJ_iload_n dX13_net_200 rfl ?_
    refine zP_callVi [_, _] _ lv_X13_415 (m_ofTree (d := d - 1) hl (by omega) hs hB0 hR0 hok.2.1 hn (by omega)) (zSt_ob hs 74 13 rfl) rfl (by omega) (Nat.le_of_ble_eq_true rfl) rfl dX13_net_201 ?_
    refine zJ_iret rfl dX13_net_204 ?_
    exact ⟨_, _, rfl, rfl, by simp [netV, treV], thr_at, rQ_thr⟩
  · skip
    refine zJ_aload_n dX13_net_0 rfl ?_
    refine zJ_iconst (v := nI 0) dX13_net_1 rfl ?_
    refine zP_puti lf_X13_107 (zSt_ob hs 74 13 rfl) rfl dX13_net_2 ?_
    refine zJ_aload_n dX13_net_5 rfl ?_
    refine zJ_aload_n dX13_net_6 rfl ?_
    refine zJ_iload_n dX13_net_7 rfl ?_
    refine zP_callVi [_] _ lv_X13_412 (m_isNet (d := d - 1) hl (by omega) hs hB0) (zSt_ob hs 74 13 rfl) rfl (by omega) (Nat.le_of_ble_eq_true rfl) rfl dX13_net_8 ?_
    rw [qNet_ok hb hn]
    refine zJ_if_ne 18 dX13_net_11 (by decide) (fun _ => ?_) (fun c11 => absurd c11 (by decide))
    refine zJ_iconst (v := nI 0) dX13_net_18 rfl ?_
    refine zJ_iconst (v := nI 1) dX13_net_19 rfl ?_
    refine zJ_iconst (v := nI 0) dX13_net_20 rfl ?_
    refine zP_callVi [_, _, _] _ lv_X13_186 (m_badF (d := d - 1) hl (by omega) hs thr_at) (zSt_ob hs 74 13 rfl) rfl (by omega) (Nat.le_of_ble_eq_true rfl) rfl dX13_net_21 ?_
    refine zJ_if_ne 51 dX13_net_24 (by decide) (fun c24 => absurd rfl c24) (fun _ => ?_)
    refine zJ_aload_n dX13_net_27 rfl ?_
    refine zJ_iload_n dX13_net_28 rfl ?_
    refine zJ_iconst (v := nI 0) dX13_net_29 rfl ?_
    refine zJ_bipush (v := nI 10) dX13_net_30 rfl ?_
    refine zP_callSi [_, _, _] _ ls_X13_141 (k_in (d := d - 1) hl (by omega)) rfl (by omega) (Nat.le_of_ble_eq_true rfl) rfl dX13_net_32 ?_
    rw [show decide (¬ (nI 8) < (nI 0) ∧ (nI 8) ≤ (nI 10)) = true from in_ok (by omega) (by omega) (by omega)]
    refine zJ_if_ne 42 dX13_net_35 (by decide) (fun _ => ?_) (fun c35 => absurd c35 (by decide))
    refine zJ_iconst (v := nI 0) dX13_net_42 rfl ?_
    refine zJ_iconst (v := nI 2) dX13_net_43 rfl ?_
    refine zJ_iconst (v := nI 1) dX13_net_44 rfl ?_
    refine zP_callVi [_, _, _] _ lv_X13_186 (m_badF (d := d - 1) hl (by omega) hs thr_at) (zSt_ob hs 74 13 rfl) rfl (by omega) (Nat.le_of_ble_eq_true rfl) rfl dX13_net_45 ?_
    refine zJ_if_eq 53 dX13_net_48 (by decide) (fun _ => ?_) (fun c48 => absurd rfl c48)
    refine zJ_iload_n dX13_net_53 rfl ?_
    refine zJ_tabIn 198 dX13_net_54 (by decide) (by decide) rfl (by decide) ?_
    refine zJ_aload_n dX13_net_198 rfl ?_
    refine zJ_iload_n dX13_net_199 rfl ?_
    refine zJ_iload_n dX13_net_200 rfl ?_
    refine zP_callVi [_, _] _ lv_X13_415 (m_ofTree (d := d - 1) hl (by omega) hs hB0 hR0 hok.2.1 hn (by omega)) (zSt_ob hs 74 13 rfl) rfl (by omega) (Nat.le_of_ble_eq_true rfl) rfl dX13_net_201 ?_
    refine zJ_iret rfl dX13_net_204 ?_
    exact ⟨_, _, rfl, rfl, by simp [netV, treV], thr_at, rQ_thr⟩
  · skip
    refine zJ_aload_n dX13_net_0 rfl ?_
    refine zJ_iconst (v := nI 0) dX13_net_1 rfl ?_
    refine zP_puti lf_X13_107 (zSt_ob hs 74 13 rfl) rfl dX13_net_2 ?_
    refine zJ_aload_n dX13_net_5 rfl ?_
    refine zJ_aload_n dX13_net_6 rfl ?_
    refine zJ_iload_n dX13_net_7 rfl ?_
    refine zP_callVi [_] _ lv_X13_412 (m_isNet (d := d - 1) hl (by omega) hs hB0) (zSt_ob hs 74 13 rfl) rfl (by omega) (Nat.le_of_ble_eq_true rfl) rfl dX13_net_8 ?_
    rw [qNet_ok hb hn]
    refine zJ_if_ne 18 dX13_net_11 (by decide) (fun _ => ?_) (fun c11 => absurd c11 (by decide))
    refine zJ_iconst (v := nI 0) dX13_net_18 rfl ?_
    refine zJ_iconst (v := nI 1) dX13_net_19 rfl ?_
    refine zJ_iconst (v := nI 0) dX13_net_20 rfl ?_
    refine zP_callVi [_, _, _] _ lv_X13_186 (m_badF (d := d - 1) hl (by omega) hs thr_at) (zSt_ob hs 74 13 rfl) rfl (by omega) (Nat.le_of_ble_eq_true rfl) rfl dX13_net_21 ?_
    refine zJ_if_ne 51 dX13_net_24 (by decide) (fun c24 => absurd rfl c24) (fun _ => ?_)
    refine zJ_aload_n dX13_net_27 rfl ?_
    refine zJ_iload_n dX13_net_28 rfl ?_
    refine zJ_iconst (v := nI 0) dX13_net_29 rfl ?_
    refine zJ_bipush (v := nI 10) dX13_net_30 rfl ?_
    refine zP_callSi [_, _, _] _ ls_X13_141 (k_in (d := d - 1) hl (by omega)) rfl (by omega) (Nat.le_of_ble_eq_true rfl) rfl dX13_net_32 ?_
    rw [show decide (¬ (nI 9) < (nI 0) ∧ (nI 9) ≤ (nI 10)) = true from in_ok (by omega) (by omega) (by omega)]
    refine zJ_if_ne 42 dX13_net_35 (by decide) (fun _ => ?_) (fun c35 => absurd c35 (by decide))
    refine zJ_iconst (v := nI 0) dX13_net_42 rfl ?_
    refine zJ_iconst (v := nI 2) dX13_net_43 rfl ?_
    refine zJ_iconst (v := nI 1) dX13_net_44 rfl ?_
    refine zP_callVi [_, _, _] _ lv_X13_186 (m_badF (d := d - 1) hl (by omega) hs thr_at) (zSt_ob hs 74 13 rfl) rfl (by omega) (Nat.le_of_ble_eq_true rfl) rfl dX13_net_45 ?_
    refine zJ_if_eq 53 dX13_net_48 (by decide) (fun _ => ?_) (fun c48 => absurd rfl c48)
    refine zJ_iload_n dX13_net_53 rfl ?_
    refine zJ_tabIn 198 dX13_net_54 (by decide) (by decide) rfl (by decide) ?_
    refine zJ_aload_n dX13_net_198 rfl ?_
    refine zJ_iload_n dX13_net_199 rfl ?_
    refine zJ_iload_n dX13_net_200 rfl ?_
    refine zP_callVi [_, _] _ lv_X13_415 (m_ofTree (d := d - 1) hl (by omega) hs hB0 hR0 hok.2.1 hn (by omega)) (zSt_ob hs 74 13 rfl) rfl (by omega) (Nat.le_of_ble_eq_true rfl) rfl dX13_net_201 ?_
    refine zJ_iret rfl dX13_net_204 ?_
    exact ⟨_, _, rfl, rfl, by simp [netV, treV], thr_at, rQ_thr⟩
  · skip
    refine zJ_aload_n dX13_net_0 rfl ?_
    refine zJ_iconst (v := nI 0) dX13_net_1 rfl ?_
    refine zP_puti lf_X13_107 (zSt_ob hs 74 13 rfl) rfl dX13_net_2 ?_
    refine zJ_aload_n dX13_net_5 rfl ?_
    refine zJ_aload_n dX13_net_6 rfl ?_
    refine zJ_iload_n dX13_net_7 rfl ?_
    refine zP_callVi [_] _ lv_X13_412 (m_isNet (d := d - 1) hl (by omega) hs hB0) (zSt_ob hs 74 13 rfl) rfl (by omega) (Nat.le_of_ble_eq_true rfl) rfl dX13_net_8 ?_
    rw [qNet_ok hb hn]
    refine zJ_if_ne 18 dX13_net_11 (by decide) (fun _ => ?_) (fun c11 => absurd c11 (by decide))
    refine zJ_iconst (v := nI 0) dX13_net_18 rfl ?_
    refine zJ_iconst (v := nI 1) dX13_net_19 rfl ?_
    refine zJ_iconst (v := nI 0) dX13_net_20 rfl ?_
    refine zP_callVi [_, _, _] _ lv_X13_186 (m_badF (d := d - 1) hl (by omega) hs thr_at) (zSt_ob hs 74 13 rfl) rfl (by omega) (Nat.le_of_ble_eq_true rfl) rfl dX13_net_21 ?_
    refine zJ_if_ne 51 dX13_net_24 (by decide) (fun c24 => absurd rfl c24) (fun _ => ?_)
    refine zJ_aload_n dX13_net_27 rfl ?_
    refine zJ_iload_n dX13_net_28 rfl ?_
    refine zJ_iconst (v := nI 0) dX13_net_29 rfl ?_
    refine zJ_bipush (v := nI 10) dX13_net_30 rfl ?_
    refine zP_callSi [_, _, _] _ ls_X13_141 (k_in (d := d - 1) hl (by omega)) rfl (by omega) (Nat.le_of_ble_eq_true rfl) rfl dX13_net_32 ?_
    rw [show decide (¬ (nI 10) < (nI 0) ∧ (nI 10) ≤ (nI 10)) = true from in_ok (by omega) (by omega) (by omega)]
    refine zJ_if_ne 42 dX13_net_35 (by decide) (fun _ => ?_) (fun c35 => absurd c35 (by decide))
    refine zJ_iconst (v := nI 0) dX13_net_42 rfl ?_
    refine zJ_iconst (v := nI 2) dX13_net_43 rfl ?_
    refine zJ_iconst (v := nI 1) dX13_net_44 rfl ?_
    refine zP_callVi [_, _, _] _ lv_X13_186 (m_badF (d := d - 1) hl (by omega) hs thr_at) (zSt_ob hs 74 13 rfl) rfl (by omega) (Nat.le_of_ble_eq_true rfl) rfl dX13_net_45 ?_
    refine zJ_if_eq 53 dX13_net_48 (by decide) (fun _ => ?_) (fun c48 => absurd rfl c48)
    refine zJ_iload_n dX13_net_53 rfl ?_
    refine zJ_tabIn 180 dX13_net_54 (by decide) (by decide) rfl (by decide) ?_
    refine zJ_aload_n dX13_net_180 rfl ?_
    refine zJ_aload_n dX13_net_181 rfl ?_
    refine zP_getr lf_X13_70 (zSt_ob hs 74 13 rfl) rfl (zSt_rf hs 74 30 533 rfl) dX13_net_182 ?_
    refine zJ_iload_n dX13_net_185 rfl ?_
    refine zP_callVi [_, _] _ lv_X13_312 (m_isJoined (d := d - 1) hl (by omega) hs hB0 ha hR0 hn) (zSt_ob hs 74 13 rfl) rfl (by omega) (Nat.le_of_ble_eq_true rfl) rfl dX13_net_186 ?_
    refine zJ_if_eq 196 dX13_net_189 (by decide) (fun c189 => ?_) (fun c189 => ?_)
    · replace c189 := zb0.mp c189
      refine zJ_iconst (v := nI 0) dX13_net_196 rfl ?_
      refine zJ_iret rfl dX13_net_197 ?_
      exact ⟨_, _, rfl, rfl, by show _ = (if jnd S.2.2.1 (bpc S.2.1) (bpn S.2.1) n then _ else _); rw [c189]; rfl, thr_at, rQ_thr⟩
    · replace c189 := zb1.mp c189
      refine zJ_iconst (v := nI 1) dX13_net_192 rfl ?_
      refine zJ_goto 197 dX13_net_193 (by decide) ?_
      refine zJ_iret rfl dX13_net_197 ?_
      exact ⟨_, _, rfl, rfl, by show _ = (if jnd S.2.2.1 (bpc S.2.1) (bpn S.2.1) n then _ else _); rw [c189]; rfl, thr_at, rQ_thr⟩
set_option maxHeartbeats 1000000 in
theorem m_place (hl : l.stackTraces = false) (hd : 12 ≤ d) (hs : zSt g) {S : sT} (hI : rI I S) (hok : okS S) {x y k : Nat} (hx : x < bC S.2.1) (hy : y < bR S.2.1) (hk : k ≤ 6) : zEi l Xi mX13_place d [.ref 74, .int (nI x), .int (nI y), .int (nI k)] I g (fun v J => v = placeV S.2.1 S.2.2.1 (y * 8 + x) k ∧ J 74 0 = nI 0 ∧ rQ I J) := by
  refine zC_of hl rfl rfl rfl (Nat.le_of_ble_eq_true rfl) (zav_r (zSt_ob hs 74 13 rfl).1 (zav_i (zav_i (zav_i zav_0)))) ?_
  have hI0 := rI_rQ hI (rQ_thr (x := nI 0))
  have hB0 := hI0.2.2.1
  have hR0 := hI0.2.2.2.1
  have hb := hB0.1
  have hN6 := hb.2.2.2.2.1
  have hC8 := hb.2.1
  have hR8 := hb.2.2.2.1
  have ha := zSt_ar hs 533 519 rfl
  have hkk : k = 0 ∨ k = 1 ∨ k = 2 ∨ k = 3 ∨ k = 4 ∨ k = 5 ∨ k = 6 := by omega
  rcases hkk with rfl | rfl | rfl | rfl | rfl | rfl | rfl
  · skip
    refine zJ_aload_n dX13_place_0 rfl ?_
    refine zJ_iconst (v := nI 0) dX13_place_1 rfl ?_
    refine zP_puti lf_X13_107 (zSt_ob hs 74 13 rfl) rfl dX13_place_2 ?_
    refine zJ_aload_n dX13_place_5 rfl ?_
    refine zJ_aload_n dX13_place_6 rfl ?_
    refine zJ_iload_n dX13_place_7 rfl ?_
    refine zJ_iload_n dX13_place_8 rfl ?_
    refine zP_callVi [_, _] _ lv_X13_281 (k_isWithin (d := d - 1) hl (by omega) hs hB0) (zSt_ob hs 74 13 rfl) rfl (by omega) (Nat.le_of_ble_eq_true rfl) rfl dX13_place_9 ?_
    rw [qPl_eq hB0.1, qPl_ok hb hx hy]
    refine zJ_if_ne 19 dX13_place_12 (by decide) (fun _ => ?_) (fun c12 => absurd c12 (by decide))
    refine zJ_iconst (v := nI 0) dX13_place_19 rfl ?_
    refine zJ_iconst (v := nI 1) dX13_place_20 rfl ?_
    refine zJ_iconst (v := nI 0) dX13_place_21 rfl ?_
    refine zP_callVi [_, _, _] _ lv_X13_186 (m_badF (d := d - 1) hl (by omega) hs thr_at) (zSt_ob hs 74 13 rfl) rfl (by omega) (Nat.le_of_ble_eq_true rfl) rfl dX13_place_22 ?_
    refine zJ_if_ne 52 dX13_place_25 (by decide) (fun c25 => absurd rfl c25) (fun _ => ?_)
    refine zJ_aload_n dX13_place_28 rfl ?_
    refine zJ_iload_n dX13_place_29 rfl ?_
    refine zJ_iconst (v := nI 0) dX13_place_30 rfl ?_
    refine zJ_bipush (v := nI 6) dX13_place_31 rfl ?_
    refine zP_callSi [_, _, _] _ ls_X13_141 (k_in (d := d - 1) hl (by omega)) rfl (by omega) (Nat.le_of_ble_eq_true rfl) rfl dX13_place_33 ?_
    rw [show decide (¬ (nI 0) < (nI 0) ∧ (nI 0) ≤ (nI 6)) = true from in_ok (by omega) (by omega) (by omega)]
    refine zJ_if_ne 43 dX13_place_36 (by decide) (fun _ => ?_) (fun c36 => absurd c36 (by decide))
    refine zJ_iconst (v := nI 0) dX13_place_43 rfl ?_
    refine zJ_iconst (v := nI 2) dX13_place_44 rfl ?_
    refine zJ_iconst (v := nI 1) dX13_place_45 rfl ?_
    refine zP_callVi [_, _, _] _ lv_X13_186 (m_badF (d := d - 1) hl (by omega) hs thr_at) (zSt_ob hs 74 13 rfl) rfl (by omega) (Nat.le_of_ble_eq_true rfl) rfl dX13_place_46 ?_
    refine zJ_if_eq 54 dX13_place_49 (by decide) (fun _ => ?_) (fun c49 => absurd rfl c49)
    refine zJ_bipush (v := nI 8) dX13_place_54 rfl ?_
    refine zJ_iload_n dX13_place_56 rfl ?_
    refine zJ_imul dX13_place_57 ?_
    refine zJ_iload_n dX13_place_58 rfl ?_
    refine zJ_iadd dX13_place_59 ?_
    rw [pk_mul, nI_add, Nat.mul_comm]
    refine zJ_istore dX13_place_60 (Nat.le_of_ble_eq_true rfl) (by decide) ?_
    refine zJ_iload_n dX13_place_62 rfl ?_
    refine zJ_tabIn 100 dX13_place_63 (by decide) (by decide) rfl (by decide) ?_
    refine zJ_aload_n dX13_place_100 rfl ?_
    refine zP_getr lf_X13_32 (zSt_ob hs 74 13 rfl) rfl (zSt_rf hs 74 15 81 rfl) dX13_place_101 ?_
    refine zJ_iload dX13_place_104 rfl ?_
    refine zP_iald (zSt_ar hs 81 64 rfl) (by first | assumption | with_reducible exact vp_in_nI (by omega) (by omega) | (simp (disch := omega) only [nI_add, pk_mul, pk_sub, pk_div, pk_rem, nI_clamp]; with_reducible exact vp_in_nI (by omega) (by omega))) dX13_place_106 ?_
    refine zJ_iret rfl dX13_place_107 ?_
    exact ⟨_, _, rfl, rfl, by rw [nI_clamp (by omega)]; exact hB0.2.2.1 _ (by omega), thr_at, rQ_thr⟩
  · skip
    refine zJ_aload_n dX13_place_0 rfl ?_
    refine zJ_iconst (v := nI 0) dX13_place_1 rfl ?_
    refine zP_puti lf_X13_107 (zSt_ob hs 74 13 rfl) rfl dX13_place_2 ?_
    refine zJ_aload_n dX13_place_5 rfl ?_
    refine zJ_aload_n dX13_place_6 rfl ?_
    refine zJ_iload_n dX13_place_7 rfl ?_
    refine zJ_iload_n dX13_place_8 rfl ?_
    refine zP_callVi [_, _] _ lv_X13_281 (k_isWithin (d := d - 1) hl (by omega) hs hB0) (zSt_ob hs 74 13 rfl) rfl (by omega) (Nat.le_of_ble_eq_true rfl) rfl dX13_place_9 ?_
    rw [qPl_eq hB0.1, qPl_ok hb hx hy]
    refine zJ_if_ne 19 dX13_place_12 (by decide) (fun _ => ?_) (fun c12 => absurd c12 (by decide))
    refine zJ_iconst (v := nI 0) dX13_place_19 rfl ?_
    refine zJ_iconst (v := nI 1) dX13_place_20 rfl ?_
    refine zJ_iconst (v := nI 0) dX13_place_21 rfl ?_
    refine zP_callVi [_, _, _] _ lv_X13_186 (m_badF (d := d - 1) hl (by omega) hs thr_at) (zSt_ob hs 74 13 rfl) rfl (by omega) (Nat.le_of_ble_eq_true rfl) rfl dX13_place_22 ?_
    refine zJ_if_ne 52 dX13_place_25 (by decide) (fun c25 => absurd rfl c25) (fun _ => ?_)
    refine zJ_aload_n dX13_place_28 rfl ?_
    refine zJ_iload_n dX13_place_29 rfl ?_
    refine zJ_iconst (v := nI 0) dX13_place_30 rfl ?_
    refine zJ_bipush (v := nI 6) dX13_place_31 rfl ?_
    refine zP_callSi [_, _, _] _ ls_X13_141 (k_in (d := d - 1) hl (by omega)) rfl (by omega) (Nat.le_of_ble_eq_true rfl) rfl dX13_place_33 ?_
    rw [show decide (¬ (nI 1) < (nI 0) ∧ (nI 1) ≤ (nI 6)) = true from in_ok (by omega) (by omega) (by omega)]
    refine zJ_if_ne 43 dX13_place_36 (by decide) (fun _ => ?_) (fun c36 => absurd c36 (by decide))
    refine zJ_iconst (v := nI 0) dX13_place_43 rfl ?_
    refine zJ_iconst (v := nI 2) dX13_place_44 rfl ?_
    refine zJ_iconst (v := nI 1) dX13_place_45 rfl ?_
    refine zP_callVi [_, _, _] _ lv_X13_186 (m_badF (d := d - 1) hl (by omega) hs thr_at) (zSt_ob hs 74 13 rfl) rfl (by omega) (Nat.le_of_ble_eq_true rfl) rfl dX13_place_46 ?_
    refine zJ_if_eq 54 dX13_place_49 (by decide) (fun _ => ?_) (fun c49 => absurd rfl c49)
    refine zJ_bipush (v := nI 8) dX13_place_54 rfl ?_
    refine zJ_iload_n dX13_place_56 rfl ?_
    refine zJ_imul dX13_place_57 ?_
    refine zJ_iload_n dX13_place_58 rfl ?_
    refine zJ_iadd dX13_place_59 ?_
    rw [pk_mul, nI_add, Nat.mul_comm]
    refine zJ_istore dX13_place_60 (Nat.le_of_ble_eq_true rfl) (by decide) ?_
    refine zJ_iload_n dX13_place_62 rfl ?_
    refine zJ_tabIn 108 dX13_place_63 (by decide) (by decide) rfl (by decide) ?_
    refine zJ_aload_n dX13_place_108 rfl ?_
    refine zJ_aload_n dX13_place_109 rfl ?_
    refine zP_getr lf_X13_70 (zSt_ob hs 74 13 rfl) rfl (zSt_rf hs 74 30 533 rfl) dX13_place_110 ?_
    refine zJ_iload dX13_place_113 rfl ?_
    refine zP_callVi [_, _] _ lv_X13_291 (k_users (d := d - 1) hl (by omega) hs hB0 ha (by omega)) (zSt_ob hs 74 13 rfl) rfl (by omega) (Nat.le_of_ble_eq_true rfl) rfl dX13_place_115 ?_
    refine zP_callSi [_] _ ls_X13_295 (k_ones (d := d - 1) hl (by omega)) rfl (by omega) (Nat.le_of_ble_eq_true rfl) rfl dX13_place_118 ?_
    refine zJ_iret rfl dX13_place_121 ?_
    exact ⟨_, _, rfl, rfl, by rw [on_F hN6, r_users hb hR0 hok.2.1 (by omega)]; rfl, thr_at, rQ_thr⟩
  · skip
    refine zJ_aload_n dX13_place_0 rfl ?_
    refine zJ_iconst (v := nI 0) dX13_place_1 rfl ?_
    refine zP_puti lf_X13_107 (zSt_ob hs 74 13 rfl) rfl dX13_place_2 ?_
    refine zJ_aload_n dX13_place_5 rfl ?_
    refine zJ_aload_n dX13_place_6 rfl ?_
    refine zJ_iload_n dX13_place_7 rfl ?_
    refine zJ_iload_n dX13_place_8 rfl ?_
    refine zP_callVi [_, _] _ lv_X13_281 (k_isWithin (d := d - 1) hl (by omega) hs hB0) (zSt_ob hs 74 13 rfl) rfl (by omega) (Nat.le_of_ble_eq_true rfl) rfl dX13_place_9 ?_
    rw [qPl_eq hB0.1, qPl_ok hb hx hy]
    refine zJ_if_ne 19 dX13_place_12 (by decide) (fun _ => ?_) (fun c12 => absurd c12 (by decide))
    refine zJ_iconst (v := nI 0) dX13_place_19 rfl ?_
    refine zJ_iconst (v := nI 1) dX13_place_20 rfl ?_
    refine zJ_iconst (v := nI 0) dX13_place_21 rfl ?_
    refine zP_callVi [_, _, _] _ lv_X13_186 (m_badF (d := d - 1) hl (by omega) hs thr_at) (zSt_ob hs 74 13 rfl) rfl (by omega) (Nat.le_of_ble_eq_true rfl) rfl dX13_place_22 ?_
    refine zJ_if_ne 52 dX13_place_25 (by decide) (fun c25 => absurd rfl c25) (fun _ => ?_)
    refine zJ_aload_n dX13_place_28 rfl ?_
    refine zJ_iload_n dX13_place_29 rfl ?_
    refine zJ_iconst (v := nI 0) dX13_place_30 rfl ?_
    refine zJ_bipush (v := nI 6) dX13_place_31 rfl ?_
    refine zP_callSi [_, _, _] _ ls_X13_141 (k_in (d := d - 1) hl (by omega)) rfl (by omega) (Nat.le_of_ble_eq_true rfl) rfl dX13_place_33 ?_
    rw [show decide (¬ (nI 2) < (nI 0) ∧ (nI 2) ≤ (nI 6)) = true from in_ok (by omega) (by omega) (by omega)]
    refine zJ_if_ne 43 dX13_place_36 (by decide) (fun _ => ?_) (fun c36 => absurd c36 (by decide))
    refine zJ_iconst (v := nI 0) dX13_place_43 rfl ?_
    refine zJ_iconst (v := nI 2) dX13_place_44 rfl ?_
    refine zJ_iconst (v := nI 1) dX13_place_45 rfl ?_
    refine zP_callVi [_, _, _] _ lv_X13_186 (m_badF (d := d - 1) hl (by omega) hs thr_at) (zSt_ob hs 74 13 rfl) rfl (by omega) (Nat.le_of_ble_eq_true rfl) rfl dX13_place_46 ?_
    refine zJ_if_eq 54 dX13_place_49 (by decide) (fun _ => ?_) (fun c49 => absurd rfl c49)
    refine zJ_bipush (v := nI 8) dX13_place_54 rfl ?_
    refine zJ_iload_n dX13_place_56 rfl ?_
    refine zJ_imul dX13_place_57 ?_
    refine zJ_iload_n dX13_place_58 rfl ?_
    refine zJ_iadd dX13_place_59 ?_
    rw [pk_mul, nI_add, Nat.mul_comm]
    refine zJ_istore dX13_place_60 (Nat.le_of_ble_eq_true rfl) (by decide) ?_
    refine zJ_iload_n dX13_place_62 rfl ?_
    refine zJ_tabIn 122 dX13_place_63 (by decide) (by decide) rfl (by decide) ?_
    refine zJ_aload_n dX13_place_122 rfl ?_
    refine zP_getr lf_X13_70 (zSt_ob hs 74 13 rfl) rfl (zSt_rf hs 74 30 533 rfl) dX13_place_123 ?_
    refine zJ_sipush (v := nI 384) dX13_place_126 rfl ?_
    refine zJ_iload dX13_place_129 rfl ?_
    refine zJ_iadd dX13_place_131 ?_
    refine zP_iald (zSt_ar hs 533 519 rfl) (by rw [nI_add]; exact vp_in_nI (by omega) (by omega)) dX13_place_132 ?_
    refine zJ_iret rfl dX13_place_133 ?_
    exact ⟨_, _, rfl, rfl, by rw [nI_add, nI_clamp (by omega)]; exact hR0.1 _ (by omega), thr_at, rQ_thr⟩
  · skip
    refine zJ_aload_n dX13_place_0 rfl ?_
    refine zJ_iconst (v := nI 0) dX13_place_1 rfl ?_
    refine zP_puti lf_X13_107 (zSt_ob hs 74 13 rfl) rfl dX13_place_2 ?_
    refine zJ_aload_n dX13_place_5 rfl ?_
    refine zJ_aload_n dX13_place_6 rfl ?_
    refine zJ_iload_n dX13_place_7 rfl ?_
    refine zJ_iload_n dX13_place_8 rfl ?_
    refine zP_callVi [_, _] _ lv_X13_281 (k_isWithin (d := d - 1) hl (by omega) hs hB0) (zSt_ob hs 74 13 rfl) rfl (by omega) (Nat.le_of_ble_eq_true rfl) rfl dX13_place_9 ?_
    rw [qPl_eq hB0.1, qPl_ok hb hx hy]
    refine zJ_if_ne 19 dX13_place_12 (by decide) (fun _ => ?_) (fun c12 => absurd c12 (by decide))
    refine zJ_iconst (v := nI 0) dX13_place_19 rfl ?_
    refine zJ_iconst (v := nI 1) dX13_place_20 rfl ?_
    refine zJ_iconst (v := nI 0) dX13_place_21 rfl ?_
    refine zP_callVi [_, _, _] _ lv_X13_186 (m_badF (d := d - 1) hl (by omega) hs thr_at) (zSt_ob hs 74 13 rfl) rfl (by omega) (Nat.le_of_ble_eq_true rfl) rfl dX13_place_22 ?_
    refine zJ_if_ne 52 dX13_place_25 (by decide) (fun c25 => absurd rfl c25) (fun _ => ?_)
    refine zJ_aload_n dX13_place_28 rfl ?_
    refine zJ_iload_n dX13_place_29 rfl ?_
    refine zJ_iconst (v := nI 0) dX13_place_30 rfl ?_
    refine zJ_bipush (v := nI 6) dX13_place_31 rfl ?_
    refine zP_callSi [_, _, _] _ ls_X13_141 (k_in (d := d - 1) hl (by omega)) rfl (by omega) (Nat.le_of_ble_eq_true rfl) rfl dX13_place_33 ?_
    rw [show decide (¬ (nI 3) < (nI 0) ∧ (nI 3) ≤ (nI 6)) = true from in_ok (by omega) (by omega) (by omega)]
    refine zJ_if_ne 43 dX13_place_36 (by decide) (fun _ => ?_) (fun c36 => absurd c36 (by decide))
    refine zJ_iconst (v := nI 0) dX13_place_43 rfl ?_
    refine zJ_iconst (v := nI 2) dX13_place_44 rfl ?_
    refine zJ_iconst (v := nI 1) dX13_place_45 rfl ?_
    refine zP_callVi [_, _, _] _ lv_X13_186 (m_badF (d := d - 1) hl (by omega) hs thr_at) (zSt_ob hs 74 13 rfl) rfl (by omega) (Nat.le_of_ble_eq_true rfl) rfl dX13_place_46 ?_
    refine zJ_if_eq 54 dX13_place_49 (by decide) (fun _ => ?_) (fun c49 => absurd rfl c49)
    refine zJ_bipush (v := nI 8) dX13_place_54 rfl ?_
    refine zJ_iload_n dX13_place_56 rfl ?_
    refine zJ_imul dX13_place_57 ?_
    refine zJ_iload_n dX13_place_58 rfl ?_
    refine zJ_iadd dX13_place_59 ?_
    rw [pk_mul, nI_add, Nat.mul_comm]
    refine zJ_istore dX13_place_60 (Nat.le_of_ble_eq_true rfl) (by decide) ?_
    refine zJ_iload_n dX13_place_62 rfl ?_
    refine zJ_tabIn 134 dX13_place_63 (by decide) (by decide) rfl (by decide) ?_
    refine zJ_aload_n dX13_place_134 rfl ?_
    refine zP_getr lf_X13_70 (zSt_ob hs 74 13 rfl) rfl (zSt_rf hs 74 30 533 rfl) dX13_place_135 ?_
    refine zJ_sipush (v := nI 448) dX13_place_138 rfl ?_
    refine zJ_iload dX13_place_141 rfl ?_
    refine zJ_iadd dX13_place_143 ?_
    refine zP_iald (zSt_ar hs 533 519 rfl) (by rw [nI_add]; exact vp_in_nI (by omega) (by omega)) dX13_place_144 ?_
    refine zJ_iret rfl dX13_place_145 ?_
    exact ⟨_, _, rfl, rfl, by rw [nI_add, nI_clamp (by omega)]; exact hR0.1 _ (by omega), thr_at, rQ_thr⟩
  · skip
    refine zJ_aload_n dX13_place_0 rfl ?_
    refine zJ_iconst (v := nI 0) dX13_place_1 rfl ?_
    refine zP_puti lf_X13_107 (zSt_ob hs 74 13 rfl) rfl dX13_place_2 ?_
    refine zJ_aload_n dX13_place_5 rfl ?_
    refine zJ_aload_n dX13_place_6 rfl ?_
    refine zJ_iload_n dX13_place_7 rfl ?_
    refine zJ_iload_n dX13_place_8 rfl ?_
    refine zP_callVi [_, _] _ lv_X13_281 (k_isWithin (d := d - 1) hl (by omega) hs hB0) (zSt_ob hs 74 13 rfl) rfl (by omega) (Nat.le_of_ble_eq_true rfl) rfl dX13_place_9 ?_
    rw [qPl_eq hB0.1, qPl_ok hb hx hy]
    refine zJ_if_ne 19 dX13_place_12 (by decide) (fun _ => ?_) (fun c12 => absurd c12 (by decide))
    refine zJ_iconst (v := nI 0) dX13_place_19 rfl ?_
    refine zJ_iconst (v := nI 1) dX13_place_20 rfl ?_
    refine zJ_iconst (v := nI 0) dX13_place_21 rfl ?_
    refine zP_callVi [_, _, _] _ lv_X13_186 (m_badF (d := d - 1) hl (by omega) hs thr_at) (zSt_ob hs 74 13 rfl) rfl (by omega) (Nat.le_of_ble_eq_true rfl) rfl dX13_place_22 ?_
    refine zJ_if_ne 52 dX13_place_25 (by decide) (fun c25 => absurd rfl c25) (fun _ => ?_)
    refine zJ_aload_n dX13_place_28 rfl ?_
    refine zJ_iload_n dX13_place_29 rfl ?_
    refine zJ_iconst (v := nI 0) dX13_place_30 rfl ?_
    refine zJ_bipush (v := nI 6) dX13_place_31 rfl ?_
    refine zP_callSi [_, _, _] _ ls_X13_141 (k_in (d := d - 1) hl (by omega)) rfl (by omega) (Nat.le_of_ble_eq_true rfl) rfl dX13_place_33 ?_
    rw [show decide (¬ (nI 4) < (nI 0) ∧ (nI 4) ≤ (nI 6)) = true from in_ok (by omega) (by omega) (by omega)]
    refine zJ_if_ne 43 dX13_place_36 (by decide) (fun _ => ?_) (fun c36 => absurd c36 (by decide))
    refine zJ_iconst (v := nI 0) dX13_place_43 rfl ?_
    refine zJ_iconst (v := nI 2) dX13_place_44 rfl ?_
    refine zJ_iconst (v := nI 1) dX13_place_45 rfl ?_
    refine zP_callVi [_, _, _] _ lv_X13_186 (m_badF (d := d - 1) hl (by omega) hs thr_at) (zSt_ob hs 74 13 rfl) rfl (by omega) (Nat.le_of_ble_eq_true rfl) rfl dX13_place_46 ?_
    refine zJ_if_eq 54 dX13_place_49 (by decide) (fun _ => ?_) (fun c49 => absurd rfl c49)
    refine zJ_bipush (v := nI 8) dX13_place_54 rfl ?_
    refine zJ_iload_n dX13_place_56 rfl ?_
    refine zJ_imul dX13_place_57 ?_
    refine zJ_iload_n dX13_place_58 rfl ?_
    refine zJ_iadd dX13_place_59 ?_
    rw [pk_mul, nI_add, Nat.mul_comm]
    refine zJ_istore dX13_place_60 (Nat.le_of_ble_eq_true rfl) (by decide) ?_
    refine zJ_iload_n dX13_place_62 rfl ?_
    refine zJ_tabIn 146 dX13_place_63 (by decide) (by decide) rfl (by decide) ?_
    refine zJ_aload_n dX13_place_146 rfl ?_
    refine zJ_aload_n dX13_place_147 rfl ?_
    refine zP_getr lf_X13_70 (zSt_ob hs 74 13 rfl) rfl (zSt_rf hs 74 30 533 rfl) dX13_place_148 ?_
    refine zJ_iload dX13_place_151 rfl ?_
    refine zP_callVi [_, _] _ lv_X13_291 (k_users (d := d - 1) hl (by omega) hs hB0 ha (by omega)) (zSt_ob hs 74 13 rfl) rfl (by omega) (Nat.le_of_ble_eq_true rfl) rfl dX13_place_153 ?_
    refine zJ_iret rfl dX13_place_156 ?_
    exact ⟨_, _, rfl, rfl, bitF_congr (fun n hn => r_tin hR0 (by omega) (by omega)), thr_at, rQ_thr⟩
  · skip
    refine zJ_aload_n dX13_place_0 rfl ?_
    refine zJ_iconst (v := nI 0) dX13_place_1 rfl ?_
    refine zP_puti lf_X13_107 (zSt_ob hs 74 13 rfl) rfl dX13_place_2 ?_
    refine zJ_aload_n dX13_place_5 rfl ?_
    refine zJ_aload_n dX13_place_6 rfl ?_
    refine zJ_iload_n dX13_place_7 rfl ?_
    refine zJ_iload_n dX13_place_8 rfl ?_
    refine zP_callVi [_, _] _ lv_X13_281 (k_isWithin (d := d - 1) hl (by omega) hs hB0) (zSt_ob hs 74 13 rfl) rfl (by omega) (Nat.le_of_ble_eq_true rfl) rfl dX13_place_9 ?_
    rw [qPl_eq hB0.1, qPl_ok hb hx hy]
    refine zJ_if_ne 19 dX13_place_12 (by decide) (fun _ => ?_) (fun c12 => absurd c12 (by decide))
    refine zJ_iconst (v := nI 0) dX13_place_19 rfl ?_
    refine zJ_iconst (v := nI 1) dX13_place_20 rfl ?_
    refine zJ_iconst (v := nI 0) dX13_place_21 rfl ?_
    refine zP_callVi [_, _, _] _ lv_X13_186 (m_badF (d := d - 1) hl (by omega) hs thr_at) (zSt_ob hs 74 13 rfl) rfl (by omega) (Nat.le_of_ble_eq_true rfl) rfl dX13_place_22 ?_
    refine zJ_if_ne 52 dX13_place_25 (by decide) (fun c25 => absurd rfl c25) (fun _ => ?_)
    refine zJ_aload_n dX13_place_28 rfl ?_
    refine zJ_iload_n dX13_place_29 rfl ?_
    refine zJ_iconst (v := nI 0) dX13_place_30 rfl ?_
    refine zJ_bipush (v := nI 6) dX13_place_31 rfl ?_
    refine zP_callSi [_, _, _] _ ls_X13_141 (k_in (d := d - 1) hl (by omega)) rfl (by omega) (Nat.le_of_ble_eq_true rfl) rfl dX13_place_33 ?_
    rw [show decide (¬ (nI 5) < (nI 0) ∧ (nI 5) ≤ (nI 6)) = true from in_ok (by omega) (by omega) (by omega)]
    refine zJ_if_ne 43 dX13_place_36 (by decide) (fun _ => ?_) (fun c36 => absurd c36 (by decide))
    refine zJ_iconst (v := nI 0) dX13_place_43 rfl ?_
    refine zJ_iconst (v := nI 2) dX13_place_44 rfl ?_
    refine zJ_iconst (v := nI 1) dX13_place_45 rfl ?_
    refine zP_callVi [_, _, _] _ lv_X13_186 (m_badF (d := d - 1) hl (by omega) hs thr_at) (zSt_ob hs 74 13 rfl) rfl (by omega) (Nat.le_of_ble_eq_true rfl) rfl dX13_place_46 ?_
    refine zJ_if_eq 54 dX13_place_49 (by decide) (fun _ => ?_) (fun c49 => absurd rfl c49)
    refine zJ_bipush (v := nI 8) dX13_place_54 rfl ?_
    refine zJ_iload_n dX13_place_56 rfl ?_
    refine zJ_imul dX13_place_57 ?_
    refine zJ_iload_n dX13_place_58 rfl ?_
    refine zJ_iadd dX13_place_59 ?_
    rw [pk_mul, nI_add, Nat.mul_comm]
    refine zJ_istore dX13_place_60 (Nat.le_of_ble_eq_true rfl) (by decide) ?_
    refine zJ_iload_n dX13_place_62 rfl ?_
    refine zJ_tabIn 157 dX13_place_63 (by decide) (by decide) rfl (by decide) ?_
    refine zJ_aload_n dX13_place_157 rfl ?_
    refine zJ_iload dX13_place_158 rfl ?_
    refine zP_callVi [_] _ lv_X13_209 (k_pinned (d := d - 1) hl (by omega) hs hB0 (by omega)) (zSt_ob hs 74 13 rfl) rfl (by omega) (Nat.le_of_ble_eq_true rfl) rfl dX13_place_160 ?_
    refine zJ_iret rfl dX13_place_163 ?_
    exact ⟨_, _, rfl, rfl, rfl, thr_at, rQ_thr⟩
  · skip
    refine zJ_aload_n dX13_place_0 rfl ?_
    refine zJ_iconst (v := nI 0) dX13_place_1 rfl ?_
    refine zP_puti lf_X13_107 (zSt_ob hs 74 13 rfl) rfl dX13_place_2 ?_
    refine zJ_aload_n dX13_place_5 rfl ?_
    refine zJ_aload_n dX13_place_6 rfl ?_
    refine zJ_iload_n dX13_place_7 rfl ?_
    refine zJ_iload_n dX13_place_8 rfl ?_
    refine zP_callVi [_, _] _ lv_X13_281 (k_isWithin (d := d - 1) hl (by omega) hs hB0) (zSt_ob hs 74 13 rfl) rfl (by omega) (Nat.le_of_ble_eq_true rfl) rfl dX13_place_9 ?_
    rw [qPl_eq hB0.1, qPl_ok hb hx hy]
    refine zJ_if_ne 19 dX13_place_12 (by decide) (fun _ => ?_) (fun c12 => absurd c12 (by decide))
    refine zJ_iconst (v := nI 0) dX13_place_19 rfl ?_
    refine zJ_iconst (v := nI 1) dX13_place_20 rfl ?_
    refine zJ_iconst (v := nI 0) dX13_place_21 rfl ?_
    refine zP_callVi [_, _, _] _ lv_X13_186 (m_badF (d := d - 1) hl (by omega) hs thr_at) (zSt_ob hs 74 13 rfl) rfl (by omega) (Nat.le_of_ble_eq_true rfl) rfl dX13_place_22 ?_
    refine zJ_if_ne 52 dX13_place_25 (by decide) (fun c25 => absurd rfl c25) (fun _ => ?_)
    refine zJ_aload_n dX13_place_28 rfl ?_
    refine zJ_iload_n dX13_place_29 rfl ?_
    refine zJ_iconst (v := nI 0) dX13_place_30 rfl ?_
    refine zJ_bipush (v := nI 6) dX13_place_31 rfl ?_
    refine zP_callSi [_, _, _] _ ls_X13_141 (k_in (d := d - 1) hl (by omega)) rfl (by omega) (Nat.le_of_ble_eq_true rfl) rfl dX13_place_33 ?_
    rw [show decide (¬ (nI 6) < (nI 0) ∧ (nI 6) ≤ (nI 6)) = true from in_ok (by omega) (by omega) (by omega)]
    refine zJ_if_ne 43 dX13_place_36 (by decide) (fun _ => ?_) (fun c36 => absurd c36 (by decide))
    refine zJ_iconst (v := nI 0) dX13_place_43 rfl ?_
    refine zJ_iconst (v := nI 2) dX13_place_44 rfl ?_
    refine zJ_iconst (v := nI 1) dX13_place_45 rfl ?_
    refine zP_callVi [_, _, _] _ lv_X13_186 (m_badF (d := d - 1) hl (by omega) hs thr_at) (zSt_ob hs 74 13 rfl) rfl (by omega) (Nat.le_of_ble_eq_true rfl) rfl dX13_place_46 ?_
    refine zJ_if_eq 54 dX13_place_49 (by decide) (fun _ => ?_) (fun c49 => absurd rfl c49)
    refine zJ_bipush (v := nI 8) dX13_place_54 rfl ?_
    refine zJ_iload_n dX13_place_56 rfl ?_
    refine zJ_imul dX13_place_57 ?_
    refine zJ_iload_n dX13_place_58 rfl ?_
    refine zJ_iadd dX13_place_59 ?_
    rw [pk_mul, nI_add, Nat.mul_comm]
    refine zJ_istore dX13_place_60 (Nat.le_of_ble_eq_true rfl) (by decide) ?_
    refine zJ_iload_n dX13_place_62 rfl ?_
    refine zJ_tabOut 164 dX13_place_63 (by decide) (by decide) ?_
    refine zJ_aload_n dX13_place_164 rfl ?_
    refine zJ_aload_n dX13_place_165 rfl ?_
    refine zP_getr lf_X13_70 (zSt_ob hs 74 13 rfl) rfl (zSt_rf hs 74 30 533 rfl) dX13_place_166 ?_
    refine zJ_iload dX13_place_169 rfl ?_
    refine zP_callVi [_, _] _ lv_X13_335 (k_over (d := d - 1) hl (by omega) hs hB0 ha hR0 hok.2.1 (by omega)) (zSt_ob hs 74 13 rfl) rfl (by omega) (Nat.le_of_ble_eq_true rfl) rfl dX13_place_171 ?_
    refine zJ_iret rfl dX13_place_174 ?_
    exact ⟨_, _, rfl, rfl, rfl, thr_at, rQ_thr⟩
theorem m_would (hl : l.stackTraces = false) (hd : 12 ≤ d) (hs : zSt g) {S : sT} (hI : rI I S) (hok : okS S) {a0 a1 a2 a3 a4 a5 a6 a7 : Nat} (h0 : a0 ≤ 9999) (h1 : a1 ≤ 6) (h2 : a2 ≤ 9) (h3 : a3 ≤ 400) (h4 : 1 ≤ a4 ∧ a4 ≤ 3) (h5 : a5 ≤ 7) (h6 : a6 ≤ 7) (h7 : a7 ≤ 6) : zEi l Xi mX13_would d [.ref 74, .int (nI a0), .int (nI a1), .int (nI a2), .int (nI a3), .int (nI a4), .int (nI a5), .int (nI a6), .int (nI a7)] I g (fun v J => v = lawV S.2.1 (wldF a0 a1 a2 a3 a4 a5 a6 a7) ∧ J 74 0 = nI 0 ∧ rQ I J) := by
  refine zC_of hl rfl rfl rfl (Nat.le_of_ble_eq_true rfl) (zav_r (zSt_ob hs 74 13 rfl).1 (zav_i (zav_i (zav_i (zav_i (zav_i (zav_i (zav_i (zav_i zav_0))))))))) ?_
  have hI0 := rI_rQ hI (rQ_thr (x := nI 0))
  have hB0 := hI0.2.2.1
  have hR0 := hI0.2.2.2.1
  have hb := hB0.1
  have hN6 := hb.2.2.2.2.1
  have hC8 := hb.2.1
  have hR8 := hb.2.2.2.1
  have ha := zSt_ar hs 533 519 rfl
  refine zJ_aload_n dX13_would_0 rfl ?_
  refine zJ_iconst (v := nI 0) dX13_would_1 rfl ?_
  refine zP_puti lf_X13_107 (zSt_ob hs 74 13 rfl) rfl dX13_would_2 ?_
  refine zJ_aload_n dX13_would_5 rfl ?_
  refine zJ_iload_n dX13_would_6 rfl ?_
  refine zJ_iconst (v := nI 0) dX13_would_7 rfl ?_
  refine zJ_sipush (v := nI 9999) dX13_would_8 rfl ?_
  refine zP_callSi [_, _, _] _ ls_X13_141 (k_in (d := d - 1) hl (by omega)) rfl (by omega) (Nat.le_of_ble_eq_true rfl) rfl dX13_would_11 ?_
  rw [show decide (¬ (nI a0) < (nI 0) ∧ (nI a0) ≤ (nI 9999)) = true from in_ok (by omega) (by omega) (by omega)]
  refine zJ_if_eq 92 dX13_would_14 (by decide) (fun c14 => absurd c14 (by decide)) (fun _ => ?_)
  refine zJ_iload_n dX13_would_17 rfl ?_
  refine zJ_iconst (v := nI 0) dX13_would_18 rfl ?_
  refine zJ_bipush (v := nI 6) dX13_would_19 rfl ?_
  refine zP_callSi [_, _, _] _ ls_X13_141 (k_in (d := d - 1) hl (by omega)) rfl (by omega) (Nat.le_of_ble_eq_true rfl) rfl dX13_would_21 ?_
  rw [show decide (¬ (nI a1) < (nI 0) ∧ (nI a1) ≤ (nI 6)) = true from in_ok (by omega) (by omega) (by omega)]
  refine zJ_if_eq 92 dX13_would_24 (by decide) (fun c24 => absurd c24 (by decide)) (fun _ => ?_)
  refine zJ_iload_n dX13_would_27 rfl ?_
  refine zJ_iconst (v := nI 0) dX13_would_28 rfl ?_
  refine zJ_bipush (v := nI 9) dX13_would_29 rfl ?_
  refine zP_callSi [_, _, _] _ ls_X13_141 (k_in (d := d - 1) hl (by omega)) rfl (by omega) (Nat.le_of_ble_eq_true rfl) rfl dX13_would_31 ?_
  rw [show decide (¬ (nI a2) < (nI 0) ∧ (nI a2) ≤ (nI 9)) = true from in_ok (by omega) (by omega) (by omega)]
  refine zJ_if_eq 92 dX13_would_34 (by decide) (fun c34 => absurd c34 (by decide)) (fun _ => ?_)
  refine zJ_iload dX13_would_37 rfl ?_
  refine zJ_iconst (v := nI 0) dX13_would_39 rfl ?_
  refine zJ_sipush (v := nI 400) dX13_would_40 rfl ?_
  refine zP_callSi [_, _, _] _ ls_X13_141 (k_in (d := d - 1) hl (by omega)) rfl (by omega) (Nat.le_of_ble_eq_true rfl) rfl dX13_would_43 ?_
  rw [show decide (¬ (nI a3) < (nI 0) ∧ (nI a3) ≤ (nI 400)) = true from in_ok (by omega) (by omega) (by omega)]
  refine zJ_if_eq 92 dX13_would_46 (by decide) (fun c46 => absurd c46 (by decide)) (fun _ => ?_)
  refine zJ_iload dX13_would_49 rfl ?_
  refine zJ_iconst (v := nI 1) dX13_would_51 rfl ?_
  refine zJ_iconst (v := nI 3) dX13_would_52 rfl ?_
  refine zP_callSi [_, _, _] _ ls_X13_141 (k_in (d := d - 1) hl (by omega)) rfl (by omega) (Nat.le_of_ble_eq_true rfl) rfl dX13_would_53 ?_
  rw [show decide (¬ (nI a4) < (nI 1) ∧ (nI a4) ≤ (nI 3)) = true from in_ok (by omega) (by omega) (by omega)]
  refine zJ_if_eq 92 dX13_would_56 (by decide) (fun c56 => absurd c56 (by decide)) (fun _ => ?_)
  refine zJ_iload dX13_would_59 rfl ?_
  refine zJ_iconst (v := nI 0) dX13_would_61 rfl ?_
  refine zJ_bipush (v := nI 7) dX13_would_62 rfl ?_
  refine zP_callSi [_, _, _] _ ls_X13_141 (k_in (d := d - 1) hl (by omega)) rfl (by omega) (Nat.le_of_ble_eq_true rfl) rfl dX13_would_64 ?_
  rw [show decide (¬ (nI a5) < (nI 0) ∧ (nI a5) ≤ (nI 7)) = true from in_ok (by omega) (by omega) (by omega)]
  refine zJ_if_eq 92 dX13_would_67 (by decide) (fun c67 => absurd c67 (by decide)) (fun _ => ?_)
  refine zJ_iload dX13_would_70 rfl ?_
  refine zJ_iconst (v := nI 0) dX13_would_72 rfl ?_
  refine zJ_bipush (v := nI 7) dX13_would_73 rfl ?_
  refine zP_callSi [_, _, _] _ ls_X13_141 (k_in (d := d - 1) hl (by omega)) rfl (by omega) (Nat.le_of_ble_eq_true rfl) rfl dX13_would_75 ?_
  rw [show decide (¬ (nI a6) < (nI 0) ∧ (nI a6) ≤ (nI 7)) = true from in_ok (by omega) (by omega) (by omega)]
  refine zJ_if_eq 92 dX13_would_78 (by decide) (fun c78 => absurd c78 (by decide)) (fun _ => ?_)
  refine zJ_iload dX13_would_81 rfl ?_
  refine zJ_iconst (v := nI 0) dX13_would_83 rfl ?_
  refine zJ_bipush (v := nI 6) dX13_would_84 rfl ?_
  refine zP_callSi [_, _, _] _ ls_X13_141 (k_in (d := d - 1) hl (by omega)) rfl (by omega) (Nat.le_of_ble_eq_true rfl) rfl dX13_would_86 ?_
  rw [show decide (¬ (nI a7) < (nI 0) ∧ (nI a7) ≤ (nI 6)) = true from in_ok (by omega) (by omega) (by omega)]
  refine zJ_if_ne 96 dX13_would_89 (by decide) (fun _ => ?_) (fun c89 => absurd c89 (by decide))
  refine zJ_iconst (v := nI 0) dX13_would_96 rfl ?_
  refine zJ_iconst (v := nI 1) dX13_would_97 rfl ?_
  refine zJ_iconst (v := nI 1) dX13_would_98 rfl ?_
  refine zP_callVi [_, _, _] _ lv_X13_186 (m_badF (d := d - 1) hl (by omega) hs thr_at) (zSt_ob hs 74 13 rfl) rfl (by omega) (Nat.le_of_ble_eq_true rfl) rfl dX13_would_99 ?_
  refine zJ_if_eq 107 dX13_would_102 (by decide) (fun _ => ?_) (fun c102 => absurd rfl c102)
  refine zJ_aload_n dX13_would_107 rfl ?_
  refine zJ_iload_n dX13_would_108 rfl ?_
  refine zJ_iload_n dX13_would_109 rfl ?_
  refine zJ_iload_n dX13_would_110 rfl ?_
  refine zJ_iload dX13_would_111 rfl ?_
  refine zJ_iload dX13_would_113 rfl ?_
  refine zJ_iload dX13_would_115 rfl ?_
  refine zJ_iload dX13_would_117 rfl ?_
  refine zJ_iload dX13_would_119 rfl ?_
  refine zP_ecallVi [_, _, _, _, _, _, _, _] _ lv_X13_301 (m_costBy (nm := wldF a0 a1 a2 a3 a4 a5 a6 a7) (d := d - 1) hl (by omega) hs hb.2.2.2.2.2.2.2.2.2 hB0.2.2.2.2.2 rfl rfl rfl rfl rfl rfl rfl rfl) (zSt_ob hs 74 13 rfl) rfl (by omega) (Nat.le_of_ble_eq_true rfl) rfl dX13_would_121 (fun v J h => ?_)
  refine zJ_iret rfl dX13_would_124 ?_
  exact ⟨_, J, rfl, rfl, h.1, by rw [h.2 74 (by decide) (by decide)]; exact thr_at, rQ_trans rQ_thr (rQ_rF (fun c q1 q2 _ _ => h.2 c q1 q2))⟩
end ZRefX
