/-! ===== the reference: parent, cost, dist ===== -/
section ZRefV
variable {l : Launch} {Xi : zXi} {d : Nat} {I : zI} {g : zG}
def qPl (b : zWo) (x y : Int32) : Bool := decide (¬ x < 0 ∧ ¬ nI (bC b) ≤ x ∧ ¬ y < 0 ∧ y < nI (bR b))
theorem qPl_eq {b : zWo} {x y : Int32} (hb : bdOk b) : (decide (¬ x < nI 0 ∧ x ≤ nI (bC b - 1)) && decide (¬ y < nI 0 ∧ y ≤ nI (bR b - 1))) = qPl b x y := by
  obtain ⟨h1, h2, h3, h4, -⟩ := hb
  unfold qPl
  rw [← Bool.decide_and]
  refine decide_eq_decide.mpr ⟨fun h => ?_, fun h => ?_⟩
  · obtain ⟨⟨a1, a2⟩, a3, a4⟩ := h
    rw [← pk_sub (by omega), le_pred (by omega) a1] at a2
    rw [← pk_sub (by omega), le_pred (by omega) a3] at a4
    exact ⟨a1, Int32.not_le.mpr a2, a3, a4⟩
  · obtain ⟨a1, a2, a3, a4⟩ := h
    refine ⟨⟨a1, ?_⟩, a3, ?_⟩
    · rw [← pk_sub (by omega), le_pred (by omega) a1]; exact Int32.not_le.mp a2
    · rw [← pk_sub (by omega), le_pred (by omega) a3]; exact a4
theorem qPl_ok {b : zWo} {x y : Nat} (hb : bdOk b) (hx : x < bC b) (hy : y < bR b) : qPl b (nI x) (nI y) = true := by
  obtain ⟨h1, h2, h3, h4, -⟩ := hb
  exact decide_eq_true ⟨nI_pos (by omega), fun z => absurd ((nI_leI (by omega) (by omega)).mp z) (by omega), nI_pos (by omega), nI_lt hy (by omega)⟩
theorem qNet_ok {b : zWo} {n : Nat} (hb : bdOk b) (hn : n < bN b) : qNet b (nI n) = true := decide_eq_true ⟨nI_pos (by have := hb.2.2.2.2.1; omega), nI_lt hn (by have := hb.2.2.2.2.1; omega)⟩
theorem m_parentN (hl : l.stackTraces = false) (hd : 12 ≤ d) (hs : zSt g) {S : sT} (hI : rI I S) {a1 a2 a3 : Int32} (hno : (qNet S.2.1 a1 && qPl S.2.1 a2 a3) = false) : zEi l Xi mX13_parent d [.ref 74, .int a1, .int a2, .int a3] I g (fun v J => J 74 0 = nI 1 ∧ rI J (rfU S true) ∧ rQ2 I J) := by
  refine zC_of hl rfl rfl rfl (Nat.le_of_ble_eq_true rfl) (zav_r (zSt_ob hs 74 13 rfl).1 (zav_i (zav_i (zav_i zav_0)))) ?_
  have hB0 : rB (zup I 74 0 (nI 0)) S.2.1 := (rI_rQ hI rQ_thr).2.2.1
  obtain ⟨k1, k2, k3⟩ := rI_bad (w := 1) (k := true) hI
  cases c1 : qNet S.2.1 a1 with
  | false =>
    refine zJ_aload_n dX13_parent_0 rfl ?_
    refine zJ_iconst (v := nI 0) dX13_parent_1 rfl ?_
    refine zP_puti lf_X13_107 (zSt_ob hs 74 13 rfl) rfl dX13_parent_2 ?_
    refine zJ_aload_n dX13_parent_5 rfl ?_
    refine zJ_aload_n dX13_parent_6 rfl ?_
    refine zJ_iload_n dX13_parent_7 rfl ?_
    refine zP_callVi [_] _ lv_X13_412 (m_isNet (d := d - 1) hl (by omega) hs hB0) (zSt_ob hs 74 13 rfl) rfl (by omega) (Nat.le_of_ble_eq_true rfl) rfl dX13_parent_8 ?_
    rw [c1]
    refine zJ_if_eq 23 dX13_parent_11 (by decide) (fun _ => ?_) (fun c11 => absurd rfl c11)
    refine zJ_iconst (v := nI 1) dX13_parent_23 rfl ?_
    refine zJ_goto 28 dX13_parent_24 (by decide) ?_
    refine zJ_iconst (v := nI 1) dX13_parent_28 rfl ?_
    refine zJ_iconst (v := nI 0) dX13_parent_29 rfl ?_
    refine zP_callVi [_, _, _] _ lv_X13_186 (m_badT (d := d - 1) (w := 1) (r := 0) hl (by omega) hs thr_at (by omega) (by omega)) (zSt_ob hs 74 13 rfl) rfl (by omega) (Nat.le_of_ble_eq_true rfl) rfl dX13_parent_30 ?_
    refine zJ_if_eq 38 dX13_parent_33 (by decide) (fun c33 => absurd c33 (by decide)) (fun _ => ?_)
    refine zJ_iconst (v := nI 0) dX13_parent_36 rfl ?_
    refine zJ_iret rfl dX13_parent_37 ?_
    exact ⟨_, _, rfl, rfl, k2, k1, k3⟩
  | true =>
    have c2 : qPl S.2.1 a2 a3 = false := by rw [c1, Bool.true_and] at hno; exact hno
    refine zJ_aload_n dX13_parent_0 rfl ?_
    refine zJ_iconst (v := nI 0) dX13_parent_1 rfl ?_
    refine zP_puti lf_X13_107 (zSt_ob hs 74 13 rfl) rfl dX13_parent_2 ?_
    refine zJ_aload_n dX13_parent_5 rfl ?_
    refine zJ_aload_n dX13_parent_6 rfl ?_
    refine zJ_iload_n dX13_parent_7 rfl ?_
    refine zP_callVi [_] _ lv_X13_412 (m_isNet (d := d - 1) hl (by omega) hs hB0) (zSt_ob hs 74 13 rfl) rfl (by omega) (Nat.le_of_ble_eq_true rfl) rfl dX13_parent_8 ?_
    rw [c1]
    refine zJ_if_eq 23 dX13_parent_11 (by decide) (fun c11 => absurd c11 (by decide)) (fun _ => ?_)
    refine zJ_aload_n dX13_parent_14 rfl ?_
    refine zJ_iload_n dX13_parent_15 rfl ?_
    refine zJ_iload_n dX13_parent_16 rfl ?_
    refine zP_callVi [_, _] _ lv_X13_281 (k_isWithin (d := d - 1) hl (by omega) hs hB0) (zSt_ob hs 74 13 rfl) rfl (by omega) (Nat.le_of_ble_eq_true rfl) rfl dX13_parent_17 ?_
    rw [qPl_eq hB0.1, c2]
    refine zJ_if_ne 27 dX13_parent_20 (by decide) (fun c20 => absurd rfl c20) (fun _ => ?_)
    refine zJ_iconst (v := nI 1) dX13_parent_23 rfl ?_
    refine zJ_goto 28 dX13_parent_24 (by decide) ?_
    refine zJ_iconst (v := nI 1) dX13_parent_28 rfl ?_
    refine zJ_iconst (v := nI 0) dX13_parent_29 rfl ?_
    refine zP_callVi [_, _, _] _ lv_X13_186 (m_badT (d := d - 1) (w := 1) (r := 0) hl (by omega) hs thr_at (by omega) (by omega)) (zSt_ob hs 74 13 rfl) rfl (by omega) (Nat.le_of_ble_eq_true rfl) rfl dX13_parent_30 ?_
    refine zJ_if_eq 38 dX13_parent_33 (by decide) (fun c33 => absurd c33 (by decide)) (fun _ => ?_)
    refine zJ_iconst (v := nI 0) dX13_parent_36 rfl ?_
    refine zJ_iret rfl dX13_parent_37 ?_
    exact ⟨_, _, rfl, rfl, k2, k1, k3⟩
theorem m_costN (hl : l.stackTraces = false) (hd : 12 ≤ d) (hs : zSt g) {S : sT} (hI : rI I S) {a1 a2 a3 : Int32} (hno : (qNet S.2.1 a1 && qPl S.2.1 a2 a3) = false) : zEi l Xi mX13_cost d [.ref 74, .int a1, .int a2, .int a3] I g (fun v J => J 74 0 = nI 1 ∧ rI J (rfU S true) ∧ rQ2 I J) := by
  refine zC_of hl rfl rfl rfl (Nat.le_of_ble_eq_true rfl) (zav_r (zSt_ob hs 74 13 rfl).1 (zav_i (zav_i (zav_i zav_0)))) ?_
  have hB0 : rB (zup I 74 0 (nI 0)) S.2.1 := (rI_rQ hI rQ_thr).2.2.1
  obtain ⟨k1, k2, k3⟩ := rI_bad (w := 1) (k := true) hI
  cases c1 : qNet S.2.1 a1 with
  | false =>
    refine zJ_aload_n dX13_cost_0 rfl ?_
    refine zJ_iconst (v := nI 0) dX13_cost_1 rfl ?_
    refine zP_puti lf_X13_107 (zSt_ob hs 74 13 rfl) rfl dX13_cost_2 ?_
    refine zJ_aload_n dX13_cost_5 rfl ?_
    refine zJ_aload_n dX13_cost_6 rfl ?_
    refine zJ_iload_n dX13_cost_7 rfl ?_
    refine zP_callVi [_] _ lv_X13_412 (m_isNet (d := d - 1) hl (by omega) hs hB0) (zSt_ob hs 74 13 rfl) rfl (by omega) (Nat.le_of_ble_eq_true rfl) rfl dX13_cost_8 ?_
    rw [c1]
    refine zJ_if_eq 23 dX13_cost_11 (by decide) (fun _ => ?_) (fun c11 => absurd rfl c11)
    refine zJ_iconst (v := nI 1) dX13_cost_23 rfl ?_
    refine zJ_goto 28 dX13_cost_24 (by decide) ?_
    refine zJ_iconst (v := nI 1) dX13_cost_28 rfl ?_
    refine zJ_iconst (v := nI 0) dX13_cost_29 rfl ?_
    refine zP_callVi [_, _, _] _ lv_X13_186 (m_badT (d := d - 1) (w := 1) (r := 0) hl (by omega) hs thr_at (by omega) (by omega)) (zSt_ob hs 74 13 rfl) rfl (by omega) (Nat.le_of_ble_eq_true rfl) rfl dX13_cost_30 ?_
    refine zJ_if_eq 38 dX13_cost_33 (by decide) (fun c33 => absurd c33 (by decide)) (fun _ => ?_)
    refine zJ_iconst (v := nI 0) dX13_cost_36 rfl ?_
    refine zJ_iret rfl dX13_cost_37 ?_
    exact ⟨_, _, rfl, rfl, k2, k1, k3⟩
  | true =>
    have c2 : qPl S.2.1 a2 a3 = false := by rw [c1, Bool.true_and] at hno; exact hno
    refine zJ_aload_n dX13_cost_0 rfl ?_
    refine zJ_iconst (v := nI 0) dX13_cost_1 rfl ?_
    refine zP_puti lf_X13_107 (zSt_ob hs 74 13 rfl) rfl dX13_cost_2 ?_
    refine zJ_aload_n dX13_cost_5 rfl ?_
    refine zJ_aload_n dX13_cost_6 rfl ?_
    refine zJ_iload_n dX13_cost_7 rfl ?_
    refine zP_callVi [_] _ lv_X13_412 (m_isNet (d := d - 1) hl (by omega) hs hB0) (zSt_ob hs 74 13 rfl) rfl (by omega) (Nat.le_of_ble_eq_true rfl) rfl dX13_cost_8 ?_
    rw [c1]
    refine zJ_if_eq 23 dX13_cost_11 (by decide) (fun c11 => absurd c11 (by decide)) (fun _ => ?_)
    refine zJ_aload_n dX13_cost_14 rfl ?_
    refine zJ_iload_n dX13_cost_15 rfl ?_
    refine zJ_iload_n dX13_cost_16 rfl ?_
    refine zP_callVi [_, _] _ lv_X13_281 (k_isWithin (d := d - 1) hl (by omega) hs hB0) (zSt_ob hs 74 13 rfl) rfl (by omega) (Nat.le_of_ble_eq_true rfl) rfl dX13_cost_17 ?_
    rw [qPl_eq hB0.1, c2]
    refine zJ_if_ne 27 dX13_cost_20 (by decide) (fun c20 => absurd rfl c20) (fun _ => ?_)
    refine zJ_iconst (v := nI 1) dX13_cost_23 rfl ?_
    refine zJ_goto 28 dX13_cost_24 (by decide) ?_
    refine zJ_iconst (v := nI 1) dX13_cost_28 rfl ?_
    refine zJ_iconst (v := nI 0) dX13_cost_29 rfl ?_
    refine zP_callVi [_, _, _] _ lv_X13_186 (m_badT (d := d - 1) (w := 1) (r := 0) hl (by omega) hs thr_at (by omega) (by omega)) (zSt_ob hs 74 13 rfl) rfl (by omega) (Nat.le_of_ble_eq_true rfl) rfl dX13_cost_30 ?_
    refine zJ_if_eq 38 dX13_cost_33 (by decide) (fun c33 => absurd c33 (by decide)) (fun _ => ?_)
    refine zJ_iconst (v := nI 0) dX13_cost_36 rfl ?_
    refine zJ_iret rfl dX13_cost_37 ?_
    exact ⟨_, _, rfl, rfl, k2, k1, k3⟩
theorem m_distN (hl : l.stackTraces = false) (hd : 12 ≤ d) (hs : zSt g) {S : sT} (hI : rI I S) {a1 a2 a3 : Int32} (hno : (qNet S.2.1 a1 && qPl S.2.1 a2 a3) = false) : zEi l Xi mX13_dist d [.ref 74, .int a1, .int a2, .int a3] I g (fun v J => J 74 0 = nI 1 ∧ rI J (rfU S true) ∧ rQ2 I J) := by
  refine zC_of hl rfl rfl rfl (Nat.le_of_ble_eq_true rfl) (zav_r (zSt_ob hs 74 13 rfl).1 (zav_i (zav_i (zav_i zav_0)))) ?_
  have hB0 : rB (zup I 74 0 (nI 0)) S.2.1 := (rI_rQ hI rQ_thr).2.2.1
  obtain ⟨k1, k2, k3⟩ := rI_bad (w := 1) (k := true) hI
  cases c1 : qNet S.2.1 a1 with
  | false =>
    refine zJ_aload_n dX13_dist_0 rfl ?_
    refine zJ_iconst (v := nI 0) dX13_dist_1 rfl ?_
    refine zP_puti lf_X13_107 (zSt_ob hs 74 13 rfl) rfl dX13_dist_2 ?_
    refine zJ_aload_n dX13_dist_5 rfl ?_
    refine zJ_aload_n dX13_dist_6 rfl ?_
    refine zJ_iload_n dX13_dist_7 rfl ?_
    refine zP_callVi [_] _ lv_X13_412 (m_isNet (d := d - 1) hl (by omega) hs hB0) (zSt_ob hs 74 13 rfl) rfl (by omega) (Nat.le_of_ble_eq_true rfl) rfl dX13_dist_8 ?_
    rw [c1]
    refine zJ_if_eq 23 dX13_dist_11 (by decide) (fun _ => ?_) (fun c11 => absurd rfl c11)
    refine zJ_iconst (v := nI 1) dX13_dist_23 rfl ?_
    refine zJ_goto 28 dX13_dist_24 (by decide) ?_
    refine zJ_iconst (v := nI 1) dX13_dist_28 rfl ?_
    refine zJ_iconst (v := nI 0) dX13_dist_29 rfl ?_
    refine zP_callVi [_, _, _] _ lv_X13_186 (m_badT (d := d - 1) (w := 1) (r := 0) hl (by omega) hs thr_at (by omega) (by omega)) (zSt_ob hs 74 13 rfl) rfl (by omega) (Nat.le_of_ble_eq_true rfl) rfl dX13_dist_30 ?_
    refine zJ_if_eq 38 dX13_dist_33 (by decide) (fun c33 => absurd c33 (by decide)) (fun _ => ?_)
    refine zJ_iconst (v := nI 0) dX13_dist_36 rfl ?_
    refine zJ_iret rfl dX13_dist_37 ?_
    exact ⟨_, _, rfl, rfl, k2, k1, k3⟩
  | true =>
    have c2 : qPl S.2.1 a2 a3 = false := by rw [c1, Bool.true_and] at hno; exact hno
    refine zJ_aload_n dX13_dist_0 rfl ?_
    refine zJ_iconst (v := nI 0) dX13_dist_1 rfl ?_
    refine zP_puti lf_X13_107 (zSt_ob hs 74 13 rfl) rfl dX13_dist_2 ?_
    refine zJ_aload_n dX13_dist_5 rfl ?_
    refine zJ_aload_n dX13_dist_6 rfl ?_
    refine zJ_iload_n dX13_dist_7 rfl ?_
    refine zP_callVi [_] _ lv_X13_412 (m_isNet (d := d - 1) hl (by omega) hs hB0) (zSt_ob hs 74 13 rfl) rfl (by omega) (Nat.le_of_ble_eq_true rfl) rfl dX13_dist_8 ?_
    rw [c1]
    refine zJ_if_eq 23 dX13_dist_11 (by decide) (fun c11 => absurd c11 (by decide)) (fun _ => ?_)
    refine zJ_aload_n dX13_dist_14 rfl ?_
    refine zJ_iload_n dX13_dist_15 rfl ?_
    refine zJ_iload_n dX13_dist_16 rfl ?_
    refine zP_callVi [_, _] _ lv_X13_281 (k_isWithin (d := d - 1) hl (by omega) hs hB0) (zSt_ob hs 74 13 rfl) rfl (by omega) (Nat.le_of_ble_eq_true rfl) rfl dX13_dist_17 ?_
    rw [qPl_eq hB0.1, c2]
    refine zJ_if_ne 27 dX13_dist_20 (by decide) (fun c20 => absurd rfl c20) (fun _ => ?_)
    refine zJ_iconst (v := nI 1) dX13_dist_23 rfl ?_
    refine zJ_goto 28 dX13_dist_24 (by decide) ?_
    refine zJ_iconst (v := nI 1) dX13_dist_28 rfl ?_
    refine zJ_iconst (v := nI 0) dX13_dist_29 rfl ?_
    refine zP_callVi [_, _, _] _ lv_X13_186 (m_badT (d := d - 1) (w := 1) (r := 0) hl (by omega) hs thr_at (by omega) (by omega)) (zSt_ob hs 74 13 rfl) rfl (by omega) (Nat.le_of_ble_eq_true rfl) rfl dX13_dist_30 ?_
    refine zJ_if_eq 38 dX13_dist_33 (by decide) (fun c33 => absurd c33 (by decide)) (fun _ => ?_)
    refine zJ_iconst (v := nI 0) dX13_dist_36 rfl ?_
    refine zJ_iret rfl dX13_dist_37 ?_
    exact ⟨_, _, rfl, rfl, k2, k1, k3⟩
theorem m_sparedN (hl : l.stackTraces = false) (hd : 12 ≤ d) (hs : zSt g) {S : sT} (hI : rI I S) {a1 a2 a3 : Int32} (hno : (qNet S.2.1 a1 && qPl S.2.1 a2 a3) = false) : zEi l Xi mX13_spared d [.ref 74, .int a1, .int a2, .int a3] I g (fun v J => J 74 0 = nI 1 ∧ rI J (rfU S true) ∧ rQ2 I J) := by
  refine zC_of hl rfl rfl rfl (Nat.le_of_ble_eq_true rfl) (zav_r (zSt_ob hs 74 13 rfl).1 (zav_i (zav_i (zav_i zav_0)))) ?_
  have hB0 : rB (zup I 74 0 (nI 0)) S.2.1 := (rI_rQ hI rQ_thr).2.2.1
  obtain ⟨k1, k2, k3⟩ := rI_bad (w := 1) (k := true) hI
  cases c1 : qNet S.2.1 a1 with
  | false =>
    refine zJ_aload_n dX13_spared_0 rfl ?_
    refine zJ_iconst (v := nI 0) dX13_spared_1 rfl ?_
    refine zP_puti lf_X13_107 (zSt_ob hs 74 13 rfl) rfl dX13_spared_2 ?_
    refine zJ_aload_n dX13_spared_5 rfl ?_
    refine zJ_aload_n dX13_spared_6 rfl ?_
    refine zJ_iload_n dX13_spared_7 rfl ?_
    refine zP_callVi [_] _ lv_X13_412 (m_isNet (d := d - 1) hl (by omega) hs hB0) (zSt_ob hs 74 13 rfl) rfl (by omega) (Nat.le_of_ble_eq_true rfl) rfl dX13_spared_8 ?_
    rw [c1]
    refine zJ_if_eq 23 dX13_spared_11 (by decide) (fun _ => ?_) (fun c11 => absurd rfl c11)
    refine zJ_iconst (v := nI 1) dX13_spared_23 rfl ?_
    refine zJ_goto 28 dX13_spared_24 (by decide) ?_
    refine zJ_iconst (v := nI 1) dX13_spared_28 rfl ?_
    refine zJ_iconst (v := nI 0) dX13_spared_29 rfl ?_
    refine zP_callVi [_, _, _] _ lv_X13_186 (m_badT (d := d - 1) (w := 1) (r := 0) hl (by omega) hs thr_at (by omega) (by omega)) (zSt_ob hs 74 13 rfl) rfl (by omega) (Nat.le_of_ble_eq_true rfl) rfl dX13_spared_30 ?_
    refine zJ_if_eq 38 dX13_spared_33 (by decide) (fun c33 => absurd c33 (by decide)) (fun _ => ?_)
    refine zJ_iconst (v := nI 0) dX13_spared_36 rfl ?_
    refine zJ_iret rfl dX13_spared_37 ?_
    exact ⟨_, _, rfl, rfl, k2, k1, k3⟩
  | true =>
    have c2 : qPl S.2.1 a2 a3 = false := by rw [c1, Bool.true_and] at hno; exact hno
    refine zJ_aload_n dX13_spared_0 rfl ?_
    refine zJ_iconst (v := nI 0) dX13_spared_1 rfl ?_
    refine zP_puti lf_X13_107 (zSt_ob hs 74 13 rfl) rfl dX13_spared_2 ?_
    refine zJ_aload_n dX13_spared_5 rfl ?_
    refine zJ_aload_n dX13_spared_6 rfl ?_
    refine zJ_iload_n dX13_spared_7 rfl ?_
    refine zP_callVi [_] _ lv_X13_412 (m_isNet (d := d - 1) hl (by omega) hs hB0) (zSt_ob hs 74 13 rfl) rfl (by omega) (Nat.le_of_ble_eq_true rfl) rfl dX13_spared_8 ?_
    rw [c1]
    refine zJ_if_eq 23 dX13_spared_11 (by decide) (fun c11 => absurd c11 (by decide)) (fun _ => ?_)
    refine zJ_aload_n dX13_spared_14 rfl ?_
    refine zJ_iload_n dX13_spared_15 rfl ?_
    refine zJ_iload_n dX13_spared_16 rfl ?_
    refine zP_callVi [_, _] _ lv_X13_281 (k_isWithin (d := d - 1) hl (by omega) hs hB0) (zSt_ob hs 74 13 rfl) rfl (by omega) (Nat.le_of_ble_eq_true rfl) rfl dX13_spared_17 ?_
    rw [qPl_eq hB0.1, c2]
    refine zJ_if_ne 27 dX13_spared_20 (by decide) (fun c20 => absurd rfl c20) (fun _ => ?_)
    refine zJ_iconst (v := nI 1) dX13_spared_23 rfl ?_
    refine zJ_goto 28 dX13_spared_24 (by decide) ?_
    refine zJ_iconst (v := nI 1) dX13_spared_28 rfl ?_
    refine zJ_iconst (v := nI 0) dX13_spared_29 rfl ?_
    refine zP_callVi [_, _, _] _ lv_X13_186 (m_badT (d := d - 1) (w := 1) (r := 0) hl (by omega) hs thr_at (by omega) (by omega)) (zSt_ob hs 74 13 rfl) rfl (by omega) (Nat.le_of_ble_eq_true rfl) rfl dX13_spared_30 ?_
    refine zJ_if_eq 38 dX13_spared_33 (by decide) (fun c33 => absurd c33 (by decide)) (fun _ => ?_)
    refine zJ_iconst (v := nI 0) dX13_spared_36 rfl ?_
    refine zJ_iret rfl dX13_spared_37 ?_
    exact ⟨_, _, rfl, rfl, k2, k1, k3⟩
theorem m_parent (hl : l.stackTraces = false) (hd : 12 ≤ d) (hs : zSt g) {S : sT} (hI : rI I S) (hok : okS S) {n x y : Nat} (hn : n < bN S.2.1) (hx : x < bC S.2.1) (hy : y < bR S.2.1) : zEi l Xi mX13_parent d [.ref 74, .int (nI n), .int (nI x), .int (nI y)] I g (fun v J => v = S.2.2.1 (n * 64 + (y * 8 + x)) ∧ J 74 0 = nI 0 ∧ rQ I J) := by
  refine zC_of hl rfl rfl rfl (Nat.le_of_ble_eq_true rfl) (zav_r (zSt_ob hs 74 13 rfl).1 (zav_i (zav_i (zav_i zav_0)))) ?_
  have hI0 := rI_rQ hI (rQ_thr (x := nI 0))
  have hB0 := hI0.2.2.1
  have hR0 := hI0.2.2.2.1
  have hb := hB0.1
  have hN6 := hb.2.2.2.2.1
  have hC8 := hb.2.1
  have hR8 := hb.2.2.2.1
  have ha := zSt_ar hs 533 519 rfl
  refine zJ_aload_n dX13_parent_0 rfl ?_
  refine zJ_iconst (v := nI 0) dX13_parent_1 rfl ?_
  refine zP_puti lf_X13_107 (zSt_ob hs 74 13 rfl) rfl dX13_parent_2 ?_
  refine zJ_aload_n dX13_parent_5 rfl ?_
  refine zJ_aload_n dX13_parent_6 rfl ?_
  refine zJ_iload_n dX13_parent_7 rfl ?_
  refine zP_callVi [_] _ lv_X13_412 (m_isNet (d := d - 1) hl (by omega) hs hB0) (zSt_ob hs 74 13 rfl) rfl (by omega) (Nat.le_of_ble_eq_true rfl) rfl dX13_parent_8 ?_
  rw [qNet_ok hb hn]
  refine zJ_if_eq 23 dX13_parent_11 (by decide) (fun c11 => absurd c11 (by decide)) (fun _ => ?_)
  refine zJ_aload_n dX13_parent_14 rfl ?_
  refine zJ_iload_n dX13_parent_15 rfl ?_
  refine zJ_iload_n dX13_parent_16 rfl ?_
  refine zP_callVi [_, _] _ lv_X13_281 (k_isWithin (d := d - 1) hl (by omega) hs hB0) (zSt_ob hs 74 13 rfl) rfl (by omega) (Nat.le_of_ble_eq_true rfl) rfl dX13_parent_17 ?_
  rw [qPl_eq hb, qPl_ok hb hx hy]
  refine zJ_if_ne 27 dX13_parent_20 (by decide) (fun _ => ?_) (fun c20 => absurd c20 (by decide))
  refine zJ_iconst (v := nI 0) dX13_parent_27 rfl ?_
  refine zJ_iconst (v := nI 1) dX13_parent_28 rfl ?_
  refine zJ_iconst (v := nI 0) dX13_parent_29 rfl ?_
  refine zP_callVi [_, _, _] _ lv_X13_186 (m_badF (d := d - 1) hl (by omega) hs thr_at) (zSt_ob hs 74 13 rfl) rfl (by omega) (Nat.le_of_ble_eq_true rfl) rfl dX13_parent_30 ?_
  refine zJ_if_eq 38 dX13_parent_33 (by decide) (fun _ => ?_) (fun c33 => absurd rfl c33)
  refine zJ_aload_n dX13_parent_38 rfl ?_
  refine zP_getr lf_X13_70 (zSt_ob hs 74 13 rfl) rfl (zSt_rf hs 74 30 533 rfl) dX13_parent_39 ?_
  refine zJ_iload_n dX13_parent_42 rfl ?_
  refine zJ_bipush (v := nI 8) dX13_parent_43 rfl ?_
  refine zJ_iload_n dX13_parent_45 rfl ?_
  refine zJ_imul dX13_parent_46 ?_
  refine zJ_iload_n dX13_parent_47 rfl ?_
  refine zJ_iadd dX13_parent_48 ?_
  rw [pk_mul, nI_add, Nat.mul_comm]
  refine zP_callSi [_, _] _ ls_X13_284 (k_treeOf (d := d - 1) hl (by omega)) rfl (by omega) (Nat.le_of_ble_eq_true rfl) rfl dX13_parent_49 ?_
  refine zP_iald (zSt_ar hs 533 519 rfl) (by first | assumption | with_reducible exact vp_in_nI (by omega) (by omega) | (simp (disch := omega) only [nI_add, pk_mul, pk_sub, pk_div, pk_rem, nI_clamp]; with_reducible exact vp_in_nI (by omega) (by omega))) dX13_parent_52 ?_
  rw [nI_clamp (by omega), hR0.1 _ (by omega)]
  refine zJ_iret rfl dX13_parent_53 ?_
  exact ⟨_, _, rfl, rfl, rfl, thr_at, rQ_thr⟩
theorem m_cost (hl : l.stackTraces = false) (hd : 12 ≤ d) (hs : zSt g) {S : sT} (hI : rI I S) (hok : okS S) {n x y : Nat} (hn : n < bN S.2.1) (hx : x < bC S.2.1) (hy : y < bR S.2.1) : zEi l Xi mX13_cost d [.ref 74, .int (nI n), .int (nI x), .int (nI y)] I g (fun v J => v = lawV S.2.1 (nmM S.2.1 S.2.2.1 n (y * 8 + x)) ∧ J 74 0 = nI 0 ∧ rQ I J) := by
  refine zC_of hl rfl rfl rfl (Nat.le_of_ble_eq_true rfl) (zav_r (zSt_ob hs 74 13 rfl).1 (zav_i (zav_i (zav_i zav_0)))) ?_
  have hI0 := rI_rQ hI (rQ_thr (x := nI 0))
  have hB0 := hI0.2.2.1
  have hR0 := hI0.2.2.2.1
  have hb := hB0.1
  have hN6 := hb.2.2.2.2.1
  have hC8 := hb.2.1
  have hR8 := hb.2.2.2.1
  have ha := zSt_ar hs 533 519 rfl
  refine zJ_aload_n dX13_cost_0 rfl ?_
  refine zJ_iconst (v := nI 0) dX13_cost_1 rfl ?_
  refine zP_puti lf_X13_107 (zSt_ob hs 74 13 rfl) rfl dX13_cost_2 ?_
  refine zJ_aload_n dX13_cost_5 rfl ?_
  refine zJ_aload_n dX13_cost_6 rfl ?_
  refine zJ_iload_n dX13_cost_7 rfl ?_
  refine zP_callVi [_] _ lv_X13_412 (m_isNet (d := d - 1) hl (by omega) hs hB0) (zSt_ob hs 74 13 rfl) rfl (by omega) (Nat.le_of_ble_eq_true rfl) rfl dX13_cost_8 ?_
  rw [qNet_ok hb hn]
  refine zJ_if_eq 23 dX13_cost_11 (by decide) (fun c11 => absurd c11 (by decide)) (fun _ => ?_)
  refine zJ_aload_n dX13_cost_14 rfl ?_
  refine zJ_iload_n dX13_cost_15 rfl ?_
  refine zJ_iload_n dX13_cost_16 rfl ?_
  refine zP_callVi [_, _] _ lv_X13_281 (k_isWithin (d := d - 1) hl (by omega) hs hB0) (zSt_ob hs 74 13 rfl) rfl (by omega) (Nat.le_of_ble_eq_true rfl) rfl dX13_cost_17 ?_
  rw [qPl_eq hb, qPl_ok hb hx hy]
  refine zJ_if_ne 27 dX13_cost_20 (by decide) (fun _ => ?_) (fun c20 => absurd c20 (by decide))
  refine zJ_iconst (v := nI 0) dX13_cost_27 rfl ?_
  refine zJ_iconst (v := nI 1) dX13_cost_28 rfl ?_
  refine zJ_iconst (v := nI 0) dX13_cost_29 rfl ?_
  refine zP_callVi [_, _, _] _ lv_X13_186 (m_badF (d := d - 1) hl (by omega) hs thr_at) (zSt_ob hs 74 13 rfl) rfl (by omega) (Nat.le_of_ble_eq_true rfl) rfl dX13_cost_30 ?_
  refine zJ_if_eq 38 dX13_cost_33 (by decide) (fun _ => ?_) (fun c33 => absurd rfl c33)
  refine zJ_aload_n dX13_cost_38 rfl ?_
  refine zJ_aload_n dX13_cost_39 rfl ?_
  refine zP_getr lf_X13_70 (zSt_ob hs 74 13 rfl) rfl (zSt_rf hs 74 30 533 rfl) dX13_cost_40 ?_
  refine zJ_iload_n dX13_cost_43 rfl ?_
  refine zJ_bipush (v := nI 8) dX13_cost_44 rfl ?_
  refine zJ_iload_n dX13_cost_46 rfl ?_
  refine zJ_imul dX13_cost_47 ?_
  refine zJ_iload_n dX13_cost_48 rfl ?_
  refine zJ_iadd dX13_cost_49 ?_
  rw [pk_mul, nI_add, Nat.mul_comm]
  refine zP_ecallVi [_, _, _] _ lv_X13_305 (m_costOf (d := d - 1) hl (by omega) hs hB0 ha hR0 hok.2.1 hn (by omega)) (zSt_ob hs 74 13 rfl) rfl (by omega) (Nat.le_of_ble_eq_true rfl) rfl dX13_cost_50 (fun v J h => ?_)
  refine zJ_iret rfl dX13_cost_53 ?_
  refine ⟨_, J, rfl, rfl, h.1, by rw [h.2 74 (by decide) (by decide)]; exact thr_at, rQ_trans rQ_thr (rQ_rF (fun c q1 q2 _ _ => h.2 c q1 q2))⟩
theorem m_dist (hl : l.stackTraces = false) (hd : 12 ≤ d) (hs : zSt g) {S : sT} (hI : rI I S) (hok : okS S) {n x y : Nat} (hn : n < bN S.2.1) (hx : x < bC S.2.1) (hy : y < bR S.2.1) : zEi l Xi mX13_dist d [.ref 74, .int (nI n), .int (nI x), .int (nI y)] I g (fun v J => v = oI (DM S.2.1 S.2.2.1 n (y * 8 + x)) ∧ J 74 0 = nI 0 ∧ rQ I J) := by
  refine zC_of hl rfl rfl rfl (Nat.le_of_ble_eq_true rfl) (zav_r (zSt_ob hs 74 13 rfl).1 (zav_i (zav_i (zav_i zav_0)))) ?_
  have hI0 := rI_rQ hI (rQ_thr (x := nI 0))
  have hB0 := hI0.2.2.1
  have hR0 := hI0.2.2.2.1
  have hb := hB0.1
  have hN6 := hb.2.2.2.2.1
  have hC8 := hb.2.1
  have hR8 := hb.2.2.2.1
  have ha := zSt_ar hs 533 519 rfl
  refine zJ_aload_n dX13_dist_0 rfl ?_
  refine zJ_iconst (v := nI 0) dX13_dist_1 rfl ?_
  refine zP_puti lf_X13_107 (zSt_ob hs 74 13 rfl) rfl dX13_dist_2 ?_
  refine zJ_aload_n dX13_dist_5 rfl ?_
  refine zJ_aload_n dX13_dist_6 rfl ?_
  refine zJ_iload_n dX13_dist_7 rfl ?_
  refine zP_callVi [_] _ lv_X13_412 (m_isNet (d := d - 1) hl (by omega) hs hB0) (zSt_ob hs 74 13 rfl) rfl (by omega) (Nat.le_of_ble_eq_true rfl) rfl dX13_dist_8 ?_
  rw [qNet_ok hb hn]
  refine zJ_if_eq 23 dX13_dist_11 (by decide) (fun c11 => absurd c11 (by decide)) (fun _ => ?_)
  refine zJ_aload_n dX13_dist_14 rfl ?_
  refine zJ_iload_n dX13_dist_15 rfl ?_
  refine zJ_iload_n dX13_dist_16 rfl ?_
  refine zP_callVi [_, _] _ lv_X13_281 (k_isWithin (d := d - 1) hl (by omega) hs hB0) (zSt_ob hs 74 13 rfl) rfl (by omega) (Nat.le_of_ble_eq_true rfl) rfl dX13_dist_17 ?_
  rw [qPl_eq hb, qPl_ok hb hx hy]
  refine zJ_if_ne 27 dX13_dist_20 (by decide) (fun _ => ?_) (fun c20 => absurd c20 (by decide))
  refine zJ_iconst (v := nI 0) dX13_dist_27 rfl ?_
  refine zJ_iconst (v := nI 1) dX13_dist_28 rfl ?_
  refine zJ_iconst (v := nI 0) dX13_dist_29 rfl ?_
  refine zP_callVi [_, _, _] _ lv_X13_186 (m_badF (d := d - 1) hl (by omega) hs thr_at) (zSt_ob hs 74 13 rfl) rfl (by omega) (Nat.le_of_ble_eq_true rfl) rfl dX13_dist_30 ?_
  refine zJ_if_eq 38 dX13_dist_33 (by decide) (fun _ => ?_) (fun c33 => absurd rfl c33)
  refine zJ_aload_n dX13_dist_38 rfl ?_
  refine zJ_aload_n dX13_dist_39 rfl ?_
  refine zP_getr lf_X13_70 (zSt_ob hs 74 13 rfl) rfl (zSt_rf hs 74 30 533 rfl) dX13_dist_40 ?_
  refine zJ_iload_n dX13_dist_43 rfl ?_
  refine zP_ecallVv [_, _] _ lv_X13_316 (m_spreads (d := d - 1) hl (by omega) hs hB0 ha (by omega) hR0 hok.2.1 hn) (zSt_ob hs 74 13 rfl) rfl (by omega) (Nat.le_of_ble_eq_true rfl) rfl dX13_dist_44 (fun J h => ?_)
  refine zJ_aload_n dX13_dist_47 rfl ?_
  refine zP_getr lf_X13_85 (zSt_ob hs 74 13 rfl) rfl (zSt_rf hs 74 40 557 rfl) dX13_dist_48 ?_
  refine zJ_bipush (v := nI 8) dX13_dist_51 rfl ?_
  refine zJ_iload_n dX13_dist_53 rfl ?_
  refine zJ_imul dX13_dist_54 ?_
  refine zJ_iload_n dX13_dist_55 rfl ?_
  refine zJ_iadd dX13_dist_56 ?_
  rw [pk_mul, nI_add, Nat.mul_comm]
  refine zP_iald (zSt_ar hs 557 64 rfl) (by first | assumption | with_reducible exact vp_in_nI (by omega) (by omega) | (simp (disch := omega) only [nI_add, pk_mul, pk_sub, pk_div, pk_rem, nI_clamp]; with_reducible exact vp_in_nI (by omega) (by omega))) dX13_dist_57 ?_
  rw [nI_clamp (by omega), h.2.1 _ (by omega)]
  refine zJ_iret rfl dX13_dist_58 ?_
  refine ⟨_, J, rfl, rfl, rfl, by rw [h.1 74 (by decide) (by decide) (by decide) (by decide)]; exact thr_at, rQ_trans rQ_thr (rQ_rF h.1)⟩
theorem aw_tab : ∀ a, a < 8 → ∀ b, b < 8 → morI (nI a - nI b) (-(nI a - nI b)) = nI (absd a b) := by decide +kernel
theorem m_away (hl : l.stackTraces = false) (hd : 2 ≤ d) {p q : Nat} (hp : p < 64) (hq : q < 64) : zD l Xi mX13_away d [.int (nI p), .int (nI q)] I g (some (.int (nI (awayN p q)))) I := by
  refine zC_of hl rfl rfl rfl (Nat.le_of_ble_eq_true rfl) (zav_i (zav_i zav_0)) ?_
  refine zJ_iload_n dX13_away_0 rfl ?_
  refine zJ_bipush (v := nI 8) dX13_away_1 rfl ?_
  refine zJ_irem dX13_away_3 (by decide) ?_
  rw [pk_rem (by omega) (by omega) (by omega)]
  refine zJ_iload_n dX13_away_4 rfl ?_
  refine zJ_bipush (v := nI 8) dX13_away_5 rfl ?_
  refine zJ_irem dX13_away_7 (by decide) ?_
  rw [pk_rem (by omega) (by omega) (by omega)]
  refine zJ_isub dX13_away_8 ?_
  refine zJ_istore_m 2 dX13_away_9 rfl (Nat.le_of_ble_eq_true rfl) (by decide) ?_
  refine zJ_iload_n dX13_away_10 rfl ?_
  refine zJ_bipush (v := nI 8) dX13_away_11 rfl ?_
  refine zJ_idiv dX13_away_13 (by decide) ?_
  rw [pk_div (by omega) (by omega) (by omega)]
  refine zJ_iload_n dX13_away_14 rfl ?_
  refine zJ_bipush (v := nI 8) dX13_away_15 rfl ?_
  refine zJ_idiv dX13_away_17 (by decide) ?_
  rw [pk_div (by omega) (by omega) (by omega)]
  refine zJ_isub dX13_away_18 ?_
  refine zJ_istore_m 3 dX13_away_19 rfl (Nat.le_of_ble_eq_true rfl) (by decide) ?_
  refine zJ_iload_n dX13_away_20 rfl ?_
  refine zJ_iload_n dX13_away_21 rfl ?_
  refine zJ_ineg dX13_away_22 ?_
  refine zP_callSi [_, _] _ ls_X13_262 (k_more (d := d - 1) hl (by omega)) rfl (by omega) (Nat.le_of_ble_eq_true rfl) rfl dX13_away_23 ?_
  refine zJ_iload_n dX13_away_26 rfl ?_
  refine zJ_iload_n dX13_away_27 rfl ?_
  refine zJ_ineg dX13_away_28 ?_
  refine zP_callSi [_, _] _ ls_X13_262 (k_more (d := d - 1) hl (by omega)) rfl (by omega) (Nat.le_of_ble_eq_true rfl) rfl dX13_away_29 ?_
  refine zJ_iadd dX13_away_32 ?_
  refine zJ_iret rfl dX13_away_33 ?_
  exact ⟨by rw [aw_tab _ (by omega) _ (by omega), aw_tab _ (by omega) _ (by omega), nI_add]; rfl, rfl⟩
theorem m_spared (hl : l.stackTraces = false) (hd : 12 ≤ d) (hs : zSt g) {S : sT} (hI : rI I S) (hok : okS S) {n x y : Nat} (hn : n < bN S.2.1) (hx : x < bC S.2.1) (hy : y < bR S.2.1) : zEi l Xi mX13_spared d [.ref 74, .int (nI n), .int (nI x), .int (nI y)] I g (fun v J => v = spaM S.2.1 S.2.2.1 n (y * 8 + x) ∧ J 74 0 = nI 0 ∧ rQ I J) := by
  refine zC_of hl rfl rfl rfl (Nat.le_of_ble_eq_true rfl) (zav_r (zSt_ob hs 74 13 rfl).1 (zav_i (zav_i (zav_i zav_0)))) ?_
  have hI0 := rI_rQ hI (rQ_thr (x := nI 0))
  have hB0 := hI0.2.2.1
  have hR0 := hI0.2.2.2.1
  have hb := hB0.1
  have hN6 := hb.2.2.2.2.1
  have hC8 := hb.2.1
  have hR8 := hb.2.2.2.1
  have ha := zSt_ar hs 533 519 rfl
  refine zJ_aload_n dX13_spared_0 rfl ?_
  refine zJ_iconst (v := nI 0) dX13_spared_1 rfl ?_
  refine zP_puti lf_X13_107 (zSt_ob hs 74 13 rfl) rfl dX13_spared_2 ?_
  refine zJ_aload_n dX13_spared_5 rfl ?_
  refine zJ_aload_n dX13_spared_6 rfl ?_
  refine zJ_iload_n dX13_spared_7 rfl ?_
  refine zP_callVi [_] _ lv_X13_412 (m_isNet (d := d - 1) hl (by omega) hs hB0) (zSt_ob hs 74 13 rfl) rfl (by omega) (Nat.le_of_ble_eq_true rfl) rfl dX13_spared_8 ?_
  rw [qNet_ok hb hn]
  refine zJ_if_eq 23 dX13_spared_11 (by decide) (fun c11 => absurd c11 (by decide)) (fun _ => ?_)
  refine zJ_aload_n dX13_spared_14 rfl ?_
  refine zJ_iload_n dX13_spared_15 rfl ?_
  refine zJ_iload_n dX13_spared_16 rfl ?_
  refine zP_callVi [_, _] _ lv_X13_281 (k_isWithin (d := d - 1) hl (by omega) hs hB0) (zSt_ob hs 74 13 rfl) rfl (by omega) (Nat.le_of_ble_eq_true rfl) rfl dX13_spared_17 ?_
  rw [qPl_eq hb, qPl_ok hb hx hy]
  refine zJ_if_ne 27 dX13_spared_20 (by decide) (fun _ => ?_) (fun c20 => absurd c20 (by decide))
  refine zJ_iconst (v := nI 0) dX13_spared_27 rfl ?_
  refine zJ_iconst (v := nI 1) dX13_spared_28 rfl ?_
  refine zJ_iconst (v := nI 0) dX13_spared_29 rfl ?_
  refine zP_callVi [_, _, _] _ lv_X13_186 (m_badF (d := d - 1) hl (by omega) hs thr_at) (zSt_ob hs 74 13 rfl) rfl (by omega) (Nat.le_of_ble_eq_true rfl) rfl dX13_spared_30 ?_
  refine zJ_if_eq 38 dX13_spared_33 (by decide) (fun _ => ?_) (fun c33 => absurd rfl c33)
  refine zJ_aload_n dX13_spared_38 rfl ?_
  refine zJ_aload_n dX13_spared_39 rfl ?_
  refine zP_getr lf_X13_70 (zSt_ob hs 74 13 rfl) rfl (zSt_rf hs 74 30 533 rfl) dX13_spared_40 ?_
  refine zJ_iload_n dX13_spared_43 rfl ?_
  refine zP_ecallVv [_, _] _ lv_X13_316 (m_spreads (d := d - 1) hl (by omega) hs hB0 ha (by omega) hR0 hok.2.1 hn) (zSt_ob hs 74 13 rfl) rfl (by omega) (Nat.le_of_ble_eq_true rfl) rfl dX13_spared_44 (fun J h => ?_)
  refine zJ_bipush (v := nI 8) dX13_spared_47 rfl ?_
  refine zJ_iload_n dX13_spared_49 rfl ?_
  refine zJ_imul dX13_spared_50 ?_
  refine zJ_iload_n dX13_spared_51 rfl ?_
  refine zJ_iadd dX13_spared_52 ?_
  rw [pk_mul, nI_add, Nat.mul_comm]
  refine zJ_istore dX13_spared_53 (Nat.le_of_ble_eq_true rfl) (by decide) ?_
  refine zJ_iconst (v := nI 0) dX13_spared_55 rfl ?_
  refine zJ_istore dX13_spared_56 (Nat.le_of_ble_eq_true rfl) (by decide) ?_
  obtain ⟨f1, s1, s2, s3⟩ := h
  have hJ0 : J 74 0 = nI 0 := by rw [f1 74 (by decide) (by decide) (by decide) (by decide)]; exact thr_at
  have hJQ : rQ I J := rQ_trans rQ_thr (rQ_rF f1)
  obtain ⟨D, hD⟩ : ∃ D, DM S.2.1 S.2.2.1 n = D := ⟨_, rfl⟩
  rw [hD] at s1 s3
  obtain ⟨q, hq⟩ : ∃ q, y * 8 + x = q := ⟨_, rfl⟩
  have hq64 : q < 64 := by omega
  unfold spaM
  rw [hD, hq]
  cases hv : D q with
  | none =>
    refine zJ_aload_n dX13_spared_58 rfl ?_
    refine zP_getr lf_X13_85 (zSt_ob hs 74 13 rfl) rfl (zSt_rf hs 74 40 557 rfl) dX13_spared_59 ?_
    refine zJ_iload dX13_spared_62 rfl ?_
    refine zP_iald (zSt_ar hs 557 64 rfl) (by first | assumption | with_reducible exact vp_in_nI (by omega) (by omega) | (simp (disch := omega) only [nI_add, pk_mul, pk_sub, pk_div, pk_rem, nI_clamp]; with_reducible exact vp_in_nI (by omega) (by omega))) dX13_spared_64 ?_
    rw [nI_clamp (by omega), s1 q hq64, hv]
    refine zJ_iconst (v := -1) dX13_spared_65 rfl ?_
    refine zJ_icmp_ne 71 dX13_spared_66 (by decide) (fun c66 => absurd rfl c66) (fun _ => ?_)
    refine zJ_iconst (v := -1) dX13_spared_69 rfl ?_
    refine zJ_iret rfl dX13_spared_70 ?_
    exact ⟨_, J, rfl, rfl, rfl, hJ0, hJQ⟩
  | some v =>
    have hvb := s3 q v hq64 hv
    have hfq : J 557 q = nI v := by rw [s1 q hq64, hv]; rfl
    have loop : ∀ m p, p + m = 64 → zJ l Xi mX13_spared d 0 0 74 [some (.ref 74), some (.int (nI n)), some (.int (nI x)), some (.int (nI y)), some (.int (nI q)), some (.int (nI (cB (spaB D v q) p))), some (.int (nI p))] [] (J, g) (fun r' h' => ∃ x I', r' = .inl (some (.int x)) ∧ h' = (I', g) ∧ x = nI (cB (spaB D v q) 64) ∧ I' 74 0 = nI 0 ∧ rQ I I') := by
      intro m
      induction m with
      | zero =>
        intro p hp
        obtain rfl : p = 64 := by omega
        refine zJ_iload dX13_spared_74 rfl ?_
        refine zJ_bipush (v := nI 64) dX13_spared_76 rfl ?_
        refine zJ_icmp_ge 150 dX13_spared_78 (by decide) (fun _ => ?_) (fun c78 => absurd (nI_le (by omega) (by omega)) c78)
        refine zJ_iload dX13_spared_150 rfl ?_
        refine zJ_iret rfl dX13_spared_152 ?_
        exact ⟨_, J, rfl, rfl, rfl, hJ0, hJQ⟩
      | succ m ih =>
        intro p hp
        have hsu : cB (spaB D v q) (p + 1) = cB (spaB D v q) p + if spaB D v q p then 1 else 0 := rfl
        have hcle : cB (spaB D v q) p ≤ p := cB_le
        refine zJ_iload dX13_spared_74 rfl ?_
        refine zJ_bipush (v := nI 64) dX13_spared_76 rfl ?_
        refine zJ_icmp_ge 150 dX13_spared_78 (by decide) (fun c78 => absurd c78 (nI_ge (by omega) (by omega))) (fun _ => ?_)
        refine zJ_iload dX13_spared_81 rfl ?_
        refine zJ_aload_n dX13_spared_83 rfl ?_
        refine zP_getr lf_X13_85 (zSt_ob hs 74 13 rfl) rfl (zSt_rf hs 74 40 557 rfl) dX13_spared_84 ?_
        refine zJ_iload dX13_spared_87 rfl ?_
        refine zP_iald (zSt_ar hs 557 64 rfl) (by first | assumption | with_reducible exact vp_in_nI (by omega) (by omega) | (simp (disch := omega) only [nI_add, pk_mul, pk_sub, pk_div, pk_rem, nI_clamp]; with_reducible exact vp_in_nI (by omega) (by omega))) dX13_spared_89 ?_
        rw [nI_clamp (by omega), s1 p (by omega)]
        refine zJ_iconst (v := -1) dX13_spared_90 rfl ?_
        refine zJ_icmp_eq 140 dX13_spared_91 (by decide) (fun c91 => ?_) (fun c91 => ?_)
        · skip
          refine zJ_iconst (v := nI 0) dX13_spared_140 rfl ?_
          refine zJ_iadd dX13_spared_141 ?_
          refine zJ_istore dX13_spared_142 (Nat.le_of_ble_eq_true rfl) (by decide) ?_
          refine zJ_iinc1 dX13_spared_144 rfl (by decide) ?_
          refine zJ_goto 74 dX13_spared_147 (by decide) ?_
          have hz : spaB D v q p = false := by
            unfold spaB
            cases z : D p with
            | none => rfl
            | some u => rw [z] at c91; exact absurd c91 (nI_ne1 (by have := s3 p u (by omega) z; omega))
          refine zJ_eq ?_ rfl rfl (ih (p + 1) (by omega))
          rw [hsu, hz, nI_add]; rfl
        · skip
          obtain ⟨u, hu⟩ : ∃ u, D p = some u := by cases z : D p with | none => exact absurd (by rw [z]; rfl) c91 | some e => exact ⟨e, rfl⟩
          have hub := s3 p u (by omega) hu
          have hfp : J 557 p = nI u := by rw [s1 p (by omega), hu]; rfl
          have haw : awayN p q ≤ 28 := by { unfold awayN absd; omega }
          refine zJ_aload_n dX13_spared_94 rfl ?_
          refine zP_getr lf_X13_85 (zSt_ob hs 74 13 rfl) rfl (zSt_rf hs 74 40 557 rfl) dX13_spared_95 ?_
          refine zJ_iload dX13_spared_98 rfl ?_
          refine zP_iald (zSt_ar hs 557 64 rfl) (by first | assumption | with_reducible exact vp_in_nI (by omega) (by omega) | (simp (disch := omega) only [nI_add, pk_mul, pk_sub, pk_div, pk_rem, nI_clamp]; with_reducible exact vp_in_nI (by omega) (by omega))) dX13_spared_100 ?_
          rw [nI_clamp (by omega), hfp]
          refine zJ_aload_n dX13_spared_101 rfl ?_
          refine zP_getr lf_X13_85 (zSt_ob hs 74 13 rfl) rfl (zSt_rf hs 74 40 557 rfl) dX13_spared_102 ?_
          refine zJ_iload dX13_spared_105 rfl ?_
          refine zP_iald (zSt_ar hs 557 64 rfl) (by first | assumption | with_reducible exact vp_in_nI (by omega) (by omega) | (simp (disch := omega) only [nI_add, pk_mul, pk_sub, pk_div, pk_rem, nI_clamp]; with_reducible exact vp_in_nI (by omega) (by omega))) dX13_spared_107 ?_
          rw [nI_clamp (by omega), hfq]
          refine zJ_icmp_ge 140 dX13_spared_108 (by decide) (fun c108 => ?_) (fun c108 => ?_)
          · skip
            refine zJ_iconst (v := nI 0) dX13_spared_140 rfl ?_
            refine zJ_iadd dX13_spared_141 ?_
            refine zJ_istore dX13_spared_142 (Nat.le_of_ble_eq_true rfl) (by decide) ?_
            refine zJ_iinc1 dX13_spared_144 rfl (by decide) ?_
            refine zJ_goto 74 dX13_spared_147 (by decide) ?_
            have hz : spaB D v q p = false := by
              simp only [spaB, hu]
              rw [decide_eq_false (by have := (nI_leI (by omega) (by omega)).mp c108; omega), Bool.false_and]
            refine zJ_eq ?_ rfl rfl (ih (p + 1) (by omega))
            rw [hsu, hz, nI_add]; rfl
          · skip
            refine zJ_aload_n dX13_spared_111 rfl ?_
            refine zP_getr lf_X13_85 (zSt_ob hs 74 13 rfl) rfl (zSt_rf hs 74 40 557 rfl) dX13_spared_112 ?_
            refine zJ_iload dX13_spared_115 rfl ?_
            refine zP_iald (zSt_ar hs 557 64 rfl) (by first | assumption | with_reducible exact vp_in_nI (by omega) (by omega) | (simp (disch := omega) only [nI_add, pk_mul, pk_sub, pk_div, pk_rem, nI_clamp]; with_reducible exact vp_in_nI (by omega) (by omega))) dX13_spared_117 ?_
            rw [nI_clamp (by omega), hfp]
            refine zJ_iload dX13_spared_118 rfl ?_
            refine zJ_iload dX13_spared_120 rfl ?_
            refine zP_callSi [_, _] _ ls_X13_418 (m_away (d := d - 1) hl (by omega) (by omega) hq64) rfl (by omega) (Nat.le_of_ble_eq_true rfl) rfl dX13_spared_122 ?_
            refine zJ_iadd dX13_spared_125 ?_
            rw [nI_add]
            refine zJ_aload_n dX13_spared_126 rfl ?_
            refine zP_getr lf_X13_85 (zSt_ob hs 74 13 rfl) rfl (zSt_rf hs 74 40 557 rfl) dX13_spared_127 ?_
            refine zJ_iload dX13_spared_130 rfl ?_
            refine zP_iald (zSt_ar hs 557 64 rfl) (by first | assumption | with_reducible exact vp_in_nI (by omega) (by omega) | (simp (disch := omega) only [nI_add, pk_mul, pk_sub, pk_div, pk_rem, nI_clamp]; with_reducible exact vp_in_nI (by omega) (by omega))) dX13_spared_132 ?_
            rw [nI_clamp (by omega), hfq]
            refine zJ_icmp_lt 140 dX13_spared_133 (by decide) (fun c133 => ?_) (fun c133 => ?_)
            · skip
              refine zJ_iconst (v := nI 0) dX13_spared_140 rfl ?_
              refine zJ_iadd dX13_spared_141 ?_
              refine zJ_istore dX13_spared_142 (Nat.le_of_ble_eq_true rfl) (by decide) ?_
              refine zJ_iinc1 dX13_spared_144 rfl (by decide) ?_
              refine zJ_goto 74 dX13_spared_147 (by decide) ?_
              have hz : spaB D v q p = false := by
                simp only [spaB, hu]
                rw [decide_eq_false (p := v ≤ u + awayN p q) (fun z => absurd c133 (nI_nlt z (by omega))), Bool.and_false]
              refine zJ_eq ?_ rfl rfl (ih (p + 1) (by omega))
              rw [hsu, hz, nI_add]; rfl
            · skip
              refine zJ_iconst (v := nI 1) dX13_spared_136 rfl ?_
              refine zJ_goto 141 dX13_spared_137 (by decide) ?_
              refine zJ_iadd dX13_spared_141 ?_
              refine zJ_istore dX13_spared_142 (Nat.le_of_ble_eq_true rfl) (by decide) ?_
              refine zJ_iinc1 dX13_spared_144 rfl (by decide) ?_
              refine zJ_goto 74 dX13_spared_147 (by decide) ?_
              have hz : spaB D v q p = true := by
                simp only [spaB, hu]
                rw [decide_eq_true (Nat.lt_of_not_le (fun z => c108 ((nI_leI (by omega) (by omega)).mpr z))), decide_eq_true (Nat.le_of_not_lt (fun z => c133 (nI_lt z (by omega))))]; rfl
              refine zJ_eq ?_ rfl rfl (ih (p + 1) (by omega))
              rw [hsu, hz, nI_add]; rfl
    refine zJ_aload_n dX13_spared_58 rfl ?_
    refine zP_getr lf_X13_85 (zSt_ob hs 74 13 rfl) rfl (zSt_rf hs 74 40 557 rfl) dX13_spared_59 ?_
    refine zJ_iload dX13_spared_62 rfl ?_
    refine zP_iald (zSt_ar hs 557 64 rfl) (by first | assumption | with_reducible exact vp_in_nI (by omega) (by omega) | (simp (disch := omega) only [nI_add, pk_mul, pk_sub, pk_div, pk_rem, nI_clamp]; with_reducible exact vp_in_nI (by omega) (by omega))) dX13_spared_64 ?_
    rw [nI_clamp (by omega), hfq]
    refine zJ_iconst (v := -1) dX13_spared_65 rfl ?_
    refine zJ_icmp_ne 71 dX13_spared_66 (by decide) (fun _ => ?_) (fun c66 => absurd c66 (nI_ne1 (by omega)))
    refine zJ_iconst (v := nI 0) dX13_spared_71 rfl ?_
    refine zJ_istore dX13_spared_72 (Nat.le_of_ble_eq_true rfl) (by decide) ?_
    exact zJ_eq rfl rfl rfl (loop 64 0 (by omega))
end ZRefV
