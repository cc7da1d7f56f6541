/-! ===== the reference: parent, cost, dist ===== -/
section ZRefV
variable {l : Launch} {Xi : zXi} {d : Nat} {I : zI} {g : zG}
def qPl (b : zWo) (x y : Int32) : Bool := decide (¬ x < 0 ∧ ¬ nI (bC b) ≤ x ∧ ¬ y < 0 ∧ y < nI (bR b))
theorem qPl_eq {b : zWo} {x y : Int32} (hb : bdOk b) : (decide (¬ x < nI 0 ∧ x ≤ nI (bC b - 1)) && decide (¬ y < nI 0 ∧ y ≤ nI (bR b - 1))) = qPl b x y := by
  obtain ⟨h1, h2, h3, h4, -⟩ := hb
  unfold qPl
  rw [← Bool.decide_and]
  refine decide_eq_decide.mpr ⟨fun h => ?_, fun h => ?_⟩
  · obtain ⟨⟨a1, a2⟩, a3, a4⟩ := h
    rw [← pk_sub (by omega), le_pred (by omega) a1] at a2
    rw [← pk_sub (by omega), le_pred (by omega) a3] at a4
    exact ⟨a1, Int32.not_le.mpr a2, a3, a4⟩
  · obtain ⟨a1, a2, a3, a4⟩ := h
    refine ⟨⟨a1, ?_⟩, a3, ?_⟩
    · rw [← pk_sub (by omega), le_pred (by omega) a1]; exact Int32.not_le.mp a2
    · rw [← pk_sub (by omega), le_pred (by omega) a3]; exact a4
theorem qPl_ok {b : zWo} {x y : Nat} (hb : bdOk b) (hx : x < bC b) (hy : y < bR b) : qPl b (nI x) (nI y) = true := by
  obtain ⟨h1, h2, h3, h4, -⟩ := hb
  exact decide_eq_true ⟨nI_pos (by omega), fun z => absurd ((nI_leI (by omega) (by omega)).mp z) (by omega), nI_pos (by omega), nI_lt hy (by omega)⟩
theorem qNet_ok {b : zWo} {n : Nat} (hb : bdOk b) (hn : n < bN b) : qNet b (nI n) = true := decide_eq_true ⟨nI_pos (by have := hb.2.2.2.2.1; omega), nI_lt hn (by have := hb.2.2.2.2.1; omega)⟩
theorem m_parentN (hl : l.stackTraces = false) (hd : 12 ≤ d) (hs : zSt g) {S : sT} (hI : rI I S) {a1 a2 a3 : Int32} (hno : (qNet S.2.1 a1 && qPl S.2.1 a2 a3) = false) : zEi l Xi mX13_parent d [.ref 74, .int a1, .int a2, .int a3] I g (fun v J => J 74 0 = nI 1 ∧ rI J (rfU S true) ∧ rQ2 I J) := by
  refine zC_of hl rfl rfl rfl (Nat.le_of_ble_eq_true rfl) (zav_r (zSt_ob hs 74 13 rfl).1 (zav_i (zav_i (zav_i zav_0)))) ?_
  have hB0 : rB (zup I 74 0 (nI 0)) S.2.1 := (rI_rQ hI rQ_thr).2.2.1
  obtain ⟨k1, k2, k3⟩ := rI_bad (w := 1) (k := true) hI
  cases c1 : qNet S.2.1 a1 with
  | false =>
    refine zJ_aload_n dX13_parent_0 rfl ?_
    refine zJ_iconst (v := nI 0) dX13_parent_1 rfl ?_
    refine zP_puti lf_X13_107 (zSt_ob hs 74 13 rfl) rfl dX13_parent_2 ?_
    refine zJ_aload_n dX13_parent_5 rfl ?_
    refine zJ_aload_n dX13_parent_6 rfl ?_
    refine zJ_iload_n dX13_parent_7 rfl ?_
    refine zP_callVi [_] _ lv_X13_412 (m_isNet (d := d - 1) hl (by omega) hs hB0) (zSt_ob hs 74 13 rfl) rfl (by omega) (Nat.le_of_ble_eq_true rfl) rfl dX13_parent_8 ?_
    rw [c1]
    refine zJ_if_eq 23 dX13_parent_11 (by decide) (fun _ => ?_) (fun c11 => absurd rfl c11)
    refine zJ_iconst (v := nI 1) dX13_parent_23 rfl ?_
    refine zJ_goto 28 dX13_parent_24 (by decide) ?_
    refine zJ_iconst (v := nI 1) dX13_parent_28 rfl ?_
    refine zJ_iconst (v := nI 0) dX13_parent_29 rfl ?_
    refine zP_callVi [_, _, _] _ lv_X13_186 (m_badT (d := d - 1) (w := 1) (r := 0) hl (by omega) hs thr_at (by omega) (by omega)) (zSt_ob hs 74 13 rfl) rfl (by omega) (Nat.le_of_ble_eq_true rfl) rfl dX13_parent_30 ?_
    refine zJ_if_eq 38 dX13_parent_33 (by decide) (fun c33 => absurd c33 (by decide)) (fun _ => ?_)
    refine zJ_iconst (v := nI 0) dX13_parent_36 rfl ?_
    refine zJ_iret rfl dX13_parent_37 ?_
    exact ⟨_, _, rfl, rfl, k2, k1, k3⟩
  | true =>
    have c2 : qPl S.2.1 a2 a3 = false := by rw [c1, Bool.true_and] at hno; exact hno
    refine zJ_aload_n dX13_parent_0 rfl ?_
    refine zJ_iconst (v := nI 0) dX13_parent_1 rfl ?_
    refine zP_puti lf_X13_107 (zSt_ob hs 74 13 rfl) rfl dX13_parent_2 ?_
    refine zJ_aload_n dX13_parent_5 rfl ?_
    refine zJ_aload_n dX13_parent_6 rfl ?_
    refine zJ_iload_n dX13_parent_7 rfl ?_
    refine zP_callVi [_] _ lv_X13_412 (m_isNet (d := d - 1) hl (by omega) hs hB0) (zSt_ob hs 74 13 rfl) rfl (by omega) (Nat.le_of_ble_eq_true rfl) rfl dX13_parent_8 ?_
    rw [c1]
    refine zJ_if_eq 23 dX13_parent_11 (by decide) (fun c11 => absurd c11 (by decide)) (fun _ => ?_)
    refine zJ_aload_n dX13_parent_14 rfl ?_
    refine zJ_iload_n dX13_parent_15 rfl ?_
    refine zJ_iload_n dX13_parent_16 rfl ?_
    refine zP_callVi [_, _] _ lv_X13_281 (k_isWithin (d := d - 1) hl (by omega) hs hB0) (zSt_ob hs 74 13 rfl) rfl (by omega) (Nat.le_of_ble_eq_true rfl) rfl dX13_parent_17 ?_
    rw [qPl_eq hB0.1, c2]
    refine zJ_if_ne 27 dX13_parent_20 (by decide) (fun c20 => absurd rfl c20) (fun _ => ?_)
    refine zJ_iconst (v := nI 1) dX13_parent_23 rfl ?_
    refine zJ_goto 28 dX13_parent_24 (by decide) ?_
    refine zJ_iconst (v := nI 1) dX13_parent_28 rfl ?_
    refine zJ_iconst (v := nI 0) dX13_parent_29 rfl ?_
    refine zP_callVi [_, _, _] _ lv_X13_186 (m_badT (d := d - 1) (w := 1) (r := 0) hl (by omega) hs thr_at (by omega) (by omega)) (zSt_ob hs 74 13 rfl) rfl (by omega) (Nat.le_of_ble_eq_true rfl) rfl dX13_parent_30 ?_
    refine zJ_if_eq 38 dX13_parent_33 (by decide) (fun c33 => absurd c33 (by decide)) (fun _ => ?_)
    refine zJ_iconst (v := nI 0) dX13_parent_36 rfl ?_
    refine zJ_iret rfl dX13_parent_37 ?_
    exact ⟨_, _, rfl, rfl, k2, k1, k3⟩
theorem m_costN (hl : l.stackTraces = false) (hd : 12 ≤ d) (hs : zSt g) {S : sT} (hI : rI I S) {a1 a2 a3 : Int32} (hno : (qNet S.2.1 a1 && qPl S.2.1 a2 a3) = false) : zEi l Xi mX13_cost d [.ref 74, .int a1, .int a2, .int a3] I g (fun v J => J 74 0 = nI 1 ∧ rI J (rfU S true) ∧ rQ2 I J) := by
  refine zC_of hl rfl rfl rfl (Nat.le_of_ble_eq_true rfl) (zav_r (zSt_ob hs 74 13 rfl).1 (zav_i (zav_i (zav_i zav_0)))) ?_
  have hB0 : rB (zup I 74 0 (nI 0)) S.2.1 := (rI_rQ hI rQ_thr).2.2.1
  obtain ⟨k1, k2, k3⟩ := rI_bad (w := 1) (k := true) hI
  cases c1 : qNet S.2.1 a1 with
  | false =>
    refine zJ_aload_n dX13_cost_0 rfl ?_
    refine zJ_iconst (v := nI 0) dX13_cost_1 rfl ?_
    refine zP_puti lf_X13_107 (zSt_ob hs 74 13 rfl) rfl dX13_cost_2 ?_
    refine zJ_aload_n dX13_cost_5 rfl ?_
    refine zJ_aload_n dX13_cost_6 rfl ?_
    refine zJ_iload_n dX13_cost_7 rfl ?_
    refine zP_callVi [_] _ lv_X13_412 (m_isNet (d := d - 1) hl (by omega) hs hB0) (zSt_ob hs 74 13 rfl) rfl (by omega) (Nat.le_of_ble_eq_true rfl) rfl dX13_cost_8 ?_
    rw [c1]
    refine zJ_if_eq 23 dX13_cost_11 (by decide) (fun _ => ?_) (fun c11 => absurd rfl c11)
    refine zJ_iconst (v := nI 1) dX13_cost_23 rfl ?_
    refine zJ_goto 28 dX13_cost_24 (by decide) ?_
    refine zJ_iconst (v := nI 1) dX13_cost_28 rfl ?_
    refine zJ_iconst (v := nI 0) dX13_cost_29 rfl ?_
    refine zP_callVi [_, _, _] _ lv_X13_186 (m_badT (d := d - 1) (w := 1) (r := 0) hl (by omega) hs thr_at (by omega) (by omega)) (zSt_ob hs 74 13 rfl) rfl (by omega) (Nat.le_of_ble_eq_true rfl) rfl dX13_cost_30 ?_
    refine zJ_if_eq 38 dX13_cost_33 (by decide) (fun c33 => absurd c33 (by decide)) (fun _ => ?_)
    refine zJ_iconst (v := nI 0) dX13_cost_36 rfl ?_
    refine zJ_iret rfl dX13_cost_37 ?_
    exact ⟨_, _, rfl, rfl, k2, k1, k3⟩
  | true =>
    have c2 : qPl S.2.1 a2 a3 = false := by rw [c1, Bool.true_and] at hno; exact hno
    refine zJ_aload_n dX13_cost_0 rfl ?_
    refine zJ_iconst (v := nI 0) dX13_cost_1 rfl ?_
    refine zP_puti lf_X13_107 (zSt_ob hs 74 13 rfl) rfl dX13_cost_2 ?_
    refine zJ_aload_n dX13_cost_5 rfl ?_
    refine zJ_aload_n dX13_cost_6 rfl ?_
    refine zJ_iload_n dX13_cost_7 rfl ?_
    refine zP_callVi [_] _ lv_X13_412 (m_isNet (d := d - 1) hl (by omega) hs hB0) (zSt_ob hs 74 13 rfl) rfl (by omega) (Nat.le_of_ble_eq_true rfl) rfl dX13_cost_8 ?_
    rw [c1]
    refine zJ_if_eq 23 dX13_cost_11 (by decide) (fun c11 => absurd c11 (by decide)) (fun _ => ?_)
    refine zJ_aload_n dX13_cost_14 rfl ?_
    refine zJ_iload_n dX13_cost_15 rfl ?_
    refine zJ_iload_n dX13_cost_16 rfl ?_
    refine zP_callVi [_, _] _ lv_X13_281 (k_isWithin (d := d - 1) hl (by omega) hs hB0) (zSt_ob hs 74 13 rfl) rfl (by omega) (Nat.le_of_ble_eq_true rfl) rfl dX13_cost_17 ?_
    rw [qPl_eq hB0.1, c2]
    refine zJ_if_ne 27 dX13_cost_20 (by decide) (fun c20 => absurd rfl c20) (fun _ => ?_)
    refine zJ_iconst (v := nI 1) dX13_cost_23 rfl ?_
    refine zJ_goto 28 dX13_cost_24 (by decide) ?_
    refine zJ_iconst (v := nI 1) dX13_cost_28 rfl ?_
    refine zJ_iconst (v := nI 0) dX13_cost_29 rfl ?_
    refine zP_callVi [_, _, _] _ lv_X13_186 (m_badT (d := d - 1) (w := 1) (r := 0) hl (by omega) hs thr_at (by omega) (by omega)) (zSt_ob hs 74 13 rfl) rfl (by omega) (Nat.le_of_ble_eq_true rfl) rfl dX13_cost_30 ?_
    refine zJ_if_eq 38 dX13_cost_33 (by decide) (fun c33 => absurd c33 (by decide)) (fun _ => ?_)
    refine zJ_iconst (v := nI 0) dX13_cost_36 rfl ?_
    refine zJ_iret rfl dX13_cost_37 ?_
    exact ⟨_, _, rfl, rfl, k2, k1, k3⟩
theorem m_distN (hl : l.stackTraces = false) (hd : 12 ≤ d) (hs : zSt g) {S : sT} (hI : rI I S) {a1 a2 a3 : Int32} (hno : (qNet S.2.1 a1 && qPl S.2.1 a2 a3) = false) : zEi l Xi mX13_dist d [.ref 74, .int a1, .int a2, .int a3] I g (fun v J => J 74 0 = nI 1 ∧ rI J (rfU S true) ∧ rQ2 I J) := by
  refine zC_of hl rfl rfl rfl (Nat.le_of_ble_eq_true rfl) (zav_r (zSt_ob hs 74 13 rfl).1 (zav_i (zav_i (zav_i zav_0)))) ?_
  have hB0 : rB (zup I 74 0 (nI 0)) S.2.1 := (rI_rQ hI rQ_thr).2.2.1
  obtain ⟨k1, k2, k3⟩ := rI_bad (w := 1) (k := true) hI
  cases c1 : qNet S.2.1 a1 with
  | false =>
    refine zJ_aload_n dX13_dist_0 rfl ?_
    refine zJ_iconst (v := nI 0) dX13_dist_1 rfl ?_
    refine zP_puti lf_X13_107 (zSt_ob hs 74 13 rfl) rfl dX13_dist_2 ?_
    refine zJ_aload_n dX13_dist_5 rfl ?_
    refine zJ_aload_n dX13_dist_6 rfl ?_
    refine zJ_iload_n dX13_dist_7 rfl ?_
    refine zP_callVi [_] _ lv_X13_412 (m_isNet (d := d - 1) hl (by omega) hs hB0) (zSt_ob hs 74 13 rfl) rfl (by omega) (Nat.le_of_ble_eq_true rfl) rfl dX13_dist_8 ?_
    rw [c1]
    refine zJ_if_eq 23 dX13_dist_11 (by decide) (fun _ => ?_) (fun c11 => absurd rfl c11)
    refine zJ_iconst (v := nI 1) dX13_dist_23 rfl ?_
    refine zJ_goto 28 dX13_dist_24 (by decide) ?_
    refine zJ_iconst (v := nI 1) dX13_dist_28 rfl ?_
    refine zJ_iconst (v := nI 0) dX13_dist_29 rfl ?_
    refine zP_callVi [_, _, _] _ lv_X13_186 (m_badT (d := d - 1) (w := 1) (r := 0) hl (by omega) hs thr_at (by omega) (by omega)) (zSt_ob hs 74 13 rfl) rfl (by omega) (Nat.le_of_ble_eq_true rfl) rfl dX13_dist_30 ?_
    refine zJ_if_eq 38 dX13_dist_33 (by decide) (fun c33 => absurd c33 (by decide)) (fun _ => ?_)
    refine zJ_iconst (v := nI 0) dX13_dist_36 rfl ?_
    refine zJ_iret rfl dX13_dist_37 ?_
    exact ⟨_, _, rfl, rfl, k2, k1, k3⟩
  | true =>
    have c2 : qPl S.2.1 a2 a3 = false := by rw [c1, Bool.true_and] at hno; exact hno
    refine zJ_aload_n dX13_dist_0 rfl ?_
    refine zJ_iconst (v := nI 0) dX13_dist_1 rfl ?_
    refine zP_puti lf_X13_107 (zSt_ob hs 74 13 rfl) rfl dX13_dist_2 ?_
    refine zJ_aload_n dX13_dist_5 rfl ?_
    refine zJ_aload_n dX13_dist_6 rfl ?_
    refine zJ_iload_n dX13_dist_7 rfl ?_
    refine zP_callVi [_] _ lv_X13_412 (m_isNet (d := d - 1) hl (by omega) hs hB0) (zSt_ob hs 74 13 rfl) rfl (by omega) (Nat.le_of_ble_eq_true rfl) rfl dX13_dist_8 ?_
    rw [c1]
    refine zJ_if_eq 23 dX13_dist_11 (by decide) (fun c11 => absurd c11 (by decide)) (fun _ => ?_)
    refine zJ_aload_n dX13_dist_14 rfl ?_
    refine zJ_iload_n dX13_dist_15 rfl ?_
    refine zJ_iload_n dX13_dist_16 rfl ?_
    refine zP_callVi [_, _] _ lv_X13_281 (k_isWithin (d := d - 1) hl (by omega) hs hB0) (zSt_ob hs 74 13 rfl) rfl (by omega) (Nat.le_of_ble_eq_true rfl) rfl dX13_dist_17 ?_
    rw [qPl_eq hB0.1, c2]
    refine zJ_if_ne 27 dX13_dist_20 (by decide) (fun c20 => absurd rfl c20) (fun _ => ?_)
    refine zJ_iconst (v := nI 1) dX13_dist_23 rfl ?_
    refine zJ_goto 28 dX13_dist_24 (by decide) ?_
    refine zJ_iconst (v := nI 1) dX13_dist_28 rfl ?_
    refine zJ_iconst (v := nI 0) dX13_dist_29 rfl ?_
    refine zP_callVi [_, _, _] _ lv_X13_186 (m_badT (d := d - 1) (w := 1) (r := 0) hl (by omega) hs thr_at (by omega) (by omega)) (zSt_ob hs 74 13 rfl) rfl (by omega) (Nat.le_of_ble_eq_true rfl) rfl dX13_dist_30 ?_
    refine zJ_if_eq 38 dX13_dist_33 (by decide) (fun c33 => absurd c33 (by decide)) (fun _ => ?_)
    refine zJ_iconst (v := nI 0) dX13_dist_36 rfl ?_
    refine zJ_iret rfl dX13_dist_37 ?_
    exact ⟨_, _, rfl, rfl, k2, k1, k3⟩
theorem m_sparedN (hl : l.stackTraces = false) (hd : 12 ≤ d) (hs : zSt g) {S : sT} (hI : rI I S) {a1 a2 a3 : Int32} (hno : (qNet S.2.1 a1 && qPl S.2.1 a2 a3) = false) : zEi l Xi mX13_spared d [.ref 74, .int a1, .int a2, .int a3] I g (fun v J => J 74 0 = nI 1 ∧ rI J (rfU S true) ∧ rQ2 I J) := by
  refine zC_of hl rfl rfl rfl (Nat.le_of_ble_eq_true rfl) (zav_r (zSt_ob hs 74 13 rfl).1 (zav_i (zav_i (zav_i zav_0)))) ?_
  have hB0 : rB (zup I 74 0 (nI 0)) S.2.1 := (rI_rQ hI rQ_thr).2.2.1
  obtain ⟨k1, k2, k3⟩ := rI_bad (w := 1) (k := true) hI
  cases c1 : qNet S.2.1 a1 with
  | false =>
    refine zJ_aload_n dX13_spared_0 rfl ?_
    refine zJ_iconst (v := nI 0) dX13_spared_1 rfl ?_
    refine zP_puti lf_X13_107 (zSt_ob hs 74 13 rfl) rfl dX13_spared_2 ?_
    refine zJ_aload_n dX13_spared_5 rfl ?_
    refine zJ_aload_n dX13_spared_6 rfl ?_
    refine zJ_iload_n dX13_spared_7 rfl ?_
    refine zP_callVi [_] _ lv_X13_412 (m_isNet (d := d - 1) hl (by omega) hs hB0) (zSt_ob hs 74 13 rfl) rfl (by omega) (Nat.le_of_ble_eq_true rfl) rfl dX13_spared_8 ?_
    rw [c1]
    refine zJ_if_eq 23 dX13_spared_11 (by decide) (fun _ => ?_) (fun c11 => absurd rfl c11)
    refine zJ_iconst (v := nI 1) dX13_spared_23 rfl ?_
    refine zJ_goto 28 dX13_spared_24 (by decide) ?_
    refine zJ_iconst (v := nI 1) dX13_spared_28 rfl ?_
    refine zJ_iconst (v := nI 0) dX13_spared_29 rfl ?_
    refine zP_callVi [_, _, _] _ lv_X13_186 (m_badT (d := d - 1) (w := 1) (r := 0) hl (by omega) hs thr_at (by omega) (by omega)) (zSt_ob hs 74 13 rfl) rfl (by omega) (Nat.le_of_ble_eq_true rfl) rfl dX13_spared_30 ?_
    refine zJ_if_eq 38 dX13_spared_33 (by decide) (fun c33 => absurd c33 (by decide)) (fun _ => ?_)
    refine zJ_iconst (v := nI 0) dX13_spared_36 rfl ?_
    refine zJ_iret rfl dX13_spared_37 ?_
    exact ⟨_, _, rfl, rfl, k2, k1, k3⟩
  | true =>
    have c2 : qPl S.2.1 a2 a3 = false := by rw [c1, Bool.true_and] at hno; exact hno
    refine zJ_aload_n dX13_spared_0 rfl ?_
    refine zJ_iconst (v := nI 0) dX13_spared_1 rfl ?_
    refine zP_puti lf_X13_107 (zSt_ob hs 74 13 rfl) rfl dX13_spared_2 ?_
    refine zJ_aload_n dX13_spared_5 rfl ?_
    refine zJ_aload_n dX13_spared_6 rfl ?_
    refine zJ_iload_n dX13_spared_7 rfl ?_
    refine zP_callVi [_] _ lv_X13_412 (m_isNet (d := d - 1) hl (by omega) hs hB0) (zSt_ob hs 74 13 rfl) rfl (by omega) (Nat.le_of_ble_eq_true rfl) rfl dX13_spared_8 ?_
    rw [c1]
    refine zJ_if_eq 23 dX13_spared_11 (by decide) (fun c11 => absurd c11 (by decide)) (fun _ => ?_)
    refine zJ_aload_n dX13_spared_14 rfl ?_
    refine zJ_iload_n dX13_spared_15 rfl ?_
    refine zJ_iload_n dX13_spared_16 rfl ?_
    refine zP_callVi [_, _] _ lv_X13_281 (k_isWithin (d := d - 1) hl (by omega) hs hB0) (zSt_ob hs 74 13 rfl) rfl (by omega) (Nat.le_of_ble_eq_true rfl) rfl dX13_spared_17 ?_
    rw [qPl_eq hB0.1, c2]
    refine zJ_if_ne 27 dX13_spared_20 (by decide) (fun c20 => absurd rfl c20) (fun _ => ?_)
    refine zJ_iconst (v := nI 1) dX13_spared_23 rfl ?_
    refine zJ_goto 28 dX13_spared_24 (by decide) ?_
    refine zJ_iconst (v := nI 1) dX13_spared_28 rfl ?_
    refine zJ_iconst (v := nI 0) dX13_spared_29 rfl ?_
    refine zP_callVi [_, _, _] _ lv_X13_186 (m_badT (d := d - 1) (w := 1) (r := 0) hl (by omega) hs thr_at (by omega) (by omega)) (zSt_ob hs 74 13 rfl) rfl (by omega) (Nat.le_of_ble_eq_true rfl) rfl dX13_spared_30 ?_
    refine zJ_if_eq 38 dX13_spared_33 (by decide) (fun c33 => absurd c33 (by decide)) (fun _ => ?_)
    refine zJ_iconst (v := nI 0) dX13_spared_36 rfl ?_
    refine zJ_iret rfl dX13_spared_37 ?_
    exact ⟨_, _, rfl, rfl, k2, k1, k3⟩
theorem m_parent (hl : l.stackTraces = false) (hd : 12 ≤ d) (hs : zSt g) {S : sT} (hI : rI I S) (hok : okS S) {n x y : Nat} (hn : n < bN S.2.1) (hx : x < bC S.2.1) (hy : y < bR S.2.1) : zEi l Xi mX13_parent d [.ref 74, .int (nI n), .int (nI x), .int (nI y)] I g (fun v J => v = S.2.2.1 (n * 64 + (y * 8 + x)) ∧ J 74 0 = nI 0 ∧ rQ I J) := by
  refine zC_of hl rfl rfl rfl (Nat.le_of_ble_eq_true rfl) (zav_r (zSt_ob hs 74 13 rfl).1 (zav_i (zav_i (zav_i zav_0)))) ?_
  have hI0 := rI_rQ hI (rQ_thr (x := nI 0))
  have hB0 := hI0.2.2.1
  have hR0 := hI0.2.2.2.1
  have hb := hB0.1
  have hN6 := hb.2.2.2.2.1
  have hC8 := hb.2.1
  have hR8 := hb.2.2.2.1
  have ha := zSt_ar hs 533 519 rfl
  refine zJ_aload_n dX13_parent_0 rfl ?_
  refine zJ_iconst (v := nI 0) dX13_parent_1 rfl ?_
  refine zP_puti lf_X13_107 (zSt_ob hs 74 13 rfl) rfl dX13_parent_2 ?_
  refine zJ_aload_n dX13_parent_5 rfl ?_
  refine zJ_aload_n dX13_parent_6 rfl ?_
  refine zJ_iload_n dX13_parent_7 rfl ?_
  refine zP_callVi [_] _ lv_X13_412 (m_isNet (d := d - 1) hl (by omega) hs hB0) (zSt_ob hs 74 13 rfl) rfl (by omega) (Nat.le_of_ble_eq_true rfl) rfl dX13_parent_8 ?_
  rw [qNet_ok hb hn]
  refine zJ_if_eq 23 dX13_parent_11 (by decide) (fun c11 => absurd c11 (by decide)) (fun _ => ?_)
  refine zJ_aload_n dX13_parent_14 rfl ?_
  refine zJ_iload_n dX13_parent_15 rfl ?_
  refine zJ_iload_n dX13_parent_16 rfl ?_
  refine zP_callVi [_, _] _ lv_X13_281 (k_isWithin (d := d - 1) hl (by omega) hs hB0) (zSt_ob hs 74 13 rfl) rfl (by omega) (Nat.le_of_ble_eq_true rfl) rfl dX13_parent_17 ?_
  rw [qPl_eq hb, qPl_ok hb hx hy]
  refine zJ_if_ne 27 dX13_parent_20 (by decide) (fun _ => ?_) (fun c20 => absurd c20 (by decide))
  refine zJ_iconst (v := nI 0) dX13_parent_27 rfl ?_
  refine zJ_iconst (v := nI 1) dX13_parent_28 rfl ?_
  refine zJ_iconst (v := nI 0) dX13_parent_29 rfl ?_
  refine zP_callVi [_, _, _] _ lv_X13_186 (m_badF (d := d - 1) hl (by omega) hs thr_at) (zSt_ob hs 74 13 rfl) rfl (by omega) (Nat.le_of_ble_eq_true rfl) rfl dX13_parent_30 ?_
  refine zJ_if_eq 38 dX13_parent_33 (by decide) (fun _ => ?_) (fun c33 => absurd rfl c33)
  refine zJ_aload_n dX13_parent_38 rfl ?_
  refine zP_getr lf_X13_70 (zSt_ob hs 74 13 rfl) rfl (zSt_rf hs 74 30 533 rfl) dX13_parent_39 ?_
  refine zJ_iload_n dX13_parent_42 rfl ?_
  refine zJ_bipush (v := nI 8) dX13_parent_43 rfl ?_
  refine zJ_iload_n dX13_parent_45 rfl ?_
  refine zJ_imul dX13_parent_46 ?_
  refine zJ_iload_n dX13_parent_47 rfl ?_
  refine zJ_iadd dX13_parent_48 ?_
  rw [pk_mul, nI_add, Nat.mul_comm]
  refine zP_callSi [_, _] _ ls_X13_284 (k_treeOf (d := d - 1) hl (by omega)) rfl (by omega) (Nat.le_of_ble_eq_true rfl) rfl dX13_parent_49 ?_
  refine zP_iald (zSt_ar hs 533 519 rfl) (by first | assumption | with_reducible exact vp_in_nI (by omega) (by omega) | (simp (disch := omega) only [nI_add, pk_mul, pk_sub, pk_div, pk_rem, nI_clamp]; with_reducible exact vp_in_nI (by omega) (by omega))) dX13_parent_52 ?_
  rw [nI_clamp (by omega), hR0.1 _ (by omega)]
  refine zJ_iret rfl dX13_parent_53 ?_
  exact ⟨_, _, rfl, rfl, rfl, thr_at, rQ_thr⟩
theorem m_cost (hl : l.stackTraces = false) (hd : 12 ≤ d) (hs : zSt g) {S : sT} (hI : rI I S) (hok : okS S) {n x y : Nat} (hn : n < bN S.2.1) (hx : x < bC S.2.1) (hy : y < bR S.2.1) : zEi l Xi mX13_cost d [.ref 74, .int (nI n), .int (nI x), .int (nI y)] I g (fun v J => v = lawV S.2.1 (nmM S.2.1 S.2.2.1 n (y * 8 + x)) ∧ J 74 0 = nI 0 ∧ rQ I J) := by
  refine zC_of hl rfl rfl rfl (Nat.le_of_ble_eq_true rfl) (zav_r (zSt_ob hs 74 13 rfl).1 (zav_i (zav_i (zav_i zav_0)))) ?_
  have hI0 := rI_rQ hI (rQ_thr (x := nI 0))
  have hB0 := hI0.2.2.1
  have hR0 := hI0.2.2.2.1
  have hb := hB0.1
  have hN6 := hb.2.2.2.2.1
  have hC8 := hb.2.1
  have hR8 := hb.2.2.2.1
  have ha := zSt_ar hs 533 519 rfl
  refine zJ_aload_n dX13_cost_0 rfl ?_
  refine zJ_iconst (v := nI 0) dX13_cost_1 rfl ?_
  refine zP_puti lf_X13_107 (zSt_ob hs 74 13 rfl) rfl dX13_cost_2 ?_
  refine zJ_aload_n dX13_cost_5 rfl ?_
  refine zJ_aload_n dX13_cost_6 rfl ?_
  refine zJ_iload_n dX13_cost_7 rfl ?_
  refine zP_callVi [_] _ lv_X13_412 (m_isNet (d := d - 1) hl (by omega) hs hB0) (zSt_ob hs 74 13 rfl) rfl (by omega) (Nat.le_of_ble_eq_true rfl) rfl dX13_cost_8 ?_
  rw [qNet_ok hb hn]
  refine zJ_if_eq 23 dX13_cost_11 (by decide) (fun c11 => absurd c11 (by decide)) (fun _ => ?_)
  refine zJ_aload_n dX13_cost_14 rfl ?_
  refine zJ_iload_n dX13_cost_15 rfl ?_
  refine zJ_iload_n dX13_cost_16 rfl ?_
  refine zP_callVi [_, _] _ lv_X13_281 (k_isWithin (d := d - 1) hl (by omega) hs hB0) (zSt_ob hs 74 13 rfl) rfl (by omega) (Nat.le_of_ble_eq_true rfl) rfl dX13_cost_17 ?_
  rw [qPl_eq hb, qPl_ok hb hx hy]
  refine zJ_if_ne 27 dX13_cost_20 (by decide) (fun _ => ?_) (fun c20 => absurd c20 (by decide))
  refine zJ_iconst (v := nI 0) dX13_cost_27 rfl ?_
  refine zJ_iconst (v := nI 1) dX13_cost_28 rfl ?_
  refine zJ_iconst (v := nI 0) dX13_cost_29 rfl ?_
  refine zP_callVi [_, _, _] _ lv_X13_186 (m_badF (d := d - 1) hl (by omega) hs thr_at) (zSt_ob hs 74 13 rfl) rfl (by omega) (Nat.le_of_ble_eq_true rfl) rfl dX13_cost_30 ?_
  refine zJ_if_eq 38 dX13_cost_33 (by decide) (fun _ => ?_) (fun c33 => absurd rfl c33)
  refine zJ_aload_n dX13_cost_38 rfl ?_
  refine zJ_aload_n dX13_cost_39 rfl ?_
  refine zP_getr lf_X13_70 (zSt_ob hs 74 13 rfl) rfl (zSt_rf hs 74 30 533 rfl) dX13_cost_40 ?_
  refine zJ_iload_n dX13_cost_43 rfl ?_
  refine zJ_bipush (v := nI 8) dX13_cost_44 rfl ?_
  refine zJ_iload_n dX13_cost_46 rfl ?_
  refine zJ_imul dX13_cost_47 ?_
  refine zJ_iload_n dX13_cost_48 rfl ?_
  refine zJ_iadd dX13_cost_49 ?_
  rw [pk_mul, nI_add, Nat.mul_comm]
  refine zP_ecallVi [_, _, _] _ lv_X13_305 (m_costOf (d := d - 1) hl (by omega) hs hB0 ha hR0 hok.2.1 hn (by omega)) (zSt_ob hs 74 13 rfl) rfl (by omega) (Nat.le_of_ble_eq_true rfl) rfl dX13_cost_50 (fun v J h => ?_)
  refine zJ_iret rfl dX13_cost_53 ?_
  refine ⟨_, J, rfl, rfl, h.1, by rw [h.2 74 (by decide) (by decide)]; exact thr_at, rQ_trans rQ_thr (rQ_rF (fun c q1 q2 _ _ => h.2 c q1 q2))⟩
end ZRefV
