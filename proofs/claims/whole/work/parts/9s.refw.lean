/-! ===== the reference: calls that are refused ===== -/
section ZRefW
variable {l : Launch} {Xi : zXi} {d : Nat} {I : zI} {g : zG}
def qRow (b : zWo) (x : Int32) : Bool := decide (¬ x < 0 ∧ x < nI (bR b))
theorem qRow_eq {b : zWo} {x : Int32} (hb : bdOk b) : decide (¬ x < nI 0 ∧ x ≤ nI (bR b) - nI 1) = qRow b x := by
  have h4 := hb.2.2.2.1
  exact decide_eq_decide.mpr ⟨fun h => ⟨h.1, (le_pred (by omega) h.1).mp h.2⟩, fun h => ⟨h.1, (le_pred (by omega) h.1).mpr h.2⟩⟩
def qSea (x y : Int32) : Bool := nRange x (nI 1) (nI 40) && nRange y (nI 0) (nI 16)
theorem m_isSeason (hl : l.stackTraces = false) (hd : 2 ≤ d) {x y : Int32} : zD l Xi mX13_isSeason d [.int x, .int y] I g (some (.int (if qSea x y then 1 else 0))) I := by
  refine zC_of hl rfl rfl rfl (Nat.le_of_ble_eq_true rfl) (zav_i (zav_i zav_0)) ?_
  refine zJ_iload_n dX13_isSeason_0 rfl ?_
  refine zJ_iconst (v := nI 1) dX13_isSeason_1 rfl ?_
  refine zJ_bipush (v := nI 40) dX13_isSeason_2 rfl ?_
  refine zP_callSi [_, _, _] _ ls_X13_141 (k_in (d := d - 1) hl (by omega)) rfl (by omega) (Nat.le_of_ble_eq_true rfl) rfl dX13_isSeason_4 ?_
  refine zJ_if_eq 24 dX13_isSeason_7 (by decide) (fun c7 => ?_) (fun c7 => ?_)
  · replace c7 := zb0.mp c7
    refine zJ_iconst (v := nI 0) dX13_isSeason_24 rfl ?_
    refine zJ_zret rfl (by decide) dX13_isSeason_25 ?_
    exact ⟨by unfold qSea nRange; rw [c7]; rfl, rfl⟩
  · replace c7 := zb1.mp c7
    refine zJ_iload_n dX13_isSeason_10 rfl ?_
    refine zJ_iconst (v := nI 0) dX13_isSeason_11 rfl ?_
    refine zJ_bipush (v := nI 16) dX13_isSeason_12 rfl ?_
    refine zP_callSi [_, _, _] _ ls_X13_141 (k_in (d := d - 1) hl (by omega)) rfl (by omega) (Nat.le_of_ble_eq_true rfl) rfl dX13_isSeason_14 ?_
    refine zJ_if_eq 24 dX13_isSeason_17 (by decide) (fun c17 => ?_) (fun c17 => ?_)
    · replace c17 := zb0.mp c17
      refine zJ_iconst (v := nI 0) dX13_isSeason_24 rfl ?_
      refine zJ_zret rfl (by decide) dX13_isSeason_25 ?_
      exact ⟨by unfold qSea nRange; rw [c7, c17]; rfl, rfl⟩
    · replace c17 := zb1.mp c17
      refine zJ_iconst (v := nI 1) dX13_isSeason_20 rfl ?_
      refine zJ_goto 25 dX13_isSeason_21 (by decide) ?_
      refine zJ_zret rfl (by decide) dX13_isSeason_25 ?_
      exact ⟨by unfold qSea nRange; rw [c7, c17]; rfl, rfl⟩
def q_told (S : sT) (a1 : Int32) : List (Bool × Bool) := [(nRange a1 (nI 0) (nI 12), false)]
theorem m_toldN (hl : l.stackTraces = false) (hd : 12 ≤ d) (hs : zSt g) {S : sT} (hI : rI I S) {a1 : Int32} {k : Bool} (hx : rT (q_told S a1) = some k) : zEi l Xi mX13_told d [.ref 74, .int a1] I g (fun v J => J 74 0 = nI 1 ∧ rI J (rfU S k) ∧ rQ2 I J) := by
  refine zC_of hl rfl rfl rfl (Nat.le_of_ble_eq_true rfl) (zav_r (zSt_ob hs 74 13 rfl).1 (zav_i zav_0)) ?_
  have hB0 : rB (zup I 74 0 (nI 0)) S.2.1 := (rI_rQ hI rQ_thr).2.2.1
  unfold q_told at hx
  rcases rT_cons hx with ⟨c, rfl⟩ | ⟨h0, hx⟩
  · obtain ⟨k1, k2, k3⟩ := rI_bad (w := 1) (k := false) hI
    refine zJ_aload_n dX13_told_0 rfl ?_
    refine zJ_iconst (v := nI 0) dX13_told_1 rfl ?_
    refine zP_puti lf_X13_107 (zSt_ob hs 74 13 rfl) rfl dX13_told_2 ?_
    refine zJ_aload_n dX13_told_5 rfl ?_
    refine zJ_iload_n dX13_told_6 rfl ?_
    refine zJ_iconst (v := nI 0) dX13_told_7 rfl ?_
    refine zJ_bipush (v := nI 12) dX13_told_8 rfl ?_
    refine zP_callSi [_, _, _] _ ls_X13_141 (k_in (d := d - 1) hl (by omega)) rfl (by omega) (Nat.le_of_ble_eq_true rfl) rfl dX13_told_10 ?_
    rw [show decide (¬ a1 < (nI 0) ∧ a1 ≤ (nI 12)) = false from c]
    refine zJ_if_ne 20 dX13_told_13 (by decide) (fun c13 => absurd rfl c13) (fun _ => ?_)
    refine zJ_iconst (v := nI 1) dX13_told_16 rfl ?_
    refine zJ_goto 21 dX13_told_17 (by decide) ?_
    refine zJ_iconst (v := nI 1) dX13_told_21 rfl ?_
    refine zJ_iconst (v := nI 1) dX13_told_22 rfl ?_
    refine zP_callVi [_, _, _] _ lv_X13_186 (m_badT (d := d - 1) (w := 1) (r := 1) hl (by omega) hs thr_at (by omega) (by omega)) (zSt_ob hs 74 13 rfl) rfl (by omega) (Nat.le_of_ble_eq_true rfl) rfl dX13_told_23 ?_
    refine zJ_if_eq 31 dX13_told_26 (by decide) (fun c26 => absurd c26 (by decide)) (fun _ => ?_)
    refine zJ_iconst (v := nI 0) dX13_told_29 rfl ?_
    refine zJ_iret rfl dX13_told_30 ?_
    exact ⟨_, _, rfl, rfl, k2, k1, k3⟩
  cases hx
def q_net (S : sT) (a1 a2 : Int32) : List (Bool × Bool) := [(qNet S.2.1 a1, true), (nRange a2 (nI 0) (nI 10), false)]
theorem m_netN (hl : l.stackTraces = false) (hd : 12 ≤ d) (hs : zSt g) {S : sT} (hI : rI I S) {a1 a2 : Int32} {k : Bool} (hx : rT (q_net S a1 a2) = some k) : zEi l Xi mX13_net d [.ref 74, .int a1, .int a2] I g (fun v J => J 74 0 = nI (if k then 1 else 2) ∧ rI J (rfU S k) ∧ rQ2 I J) := by
  refine zC_of hl rfl rfl rfl (Nat.le_of_ble_eq_true rfl) (zav_r (zSt_ob hs 74 13 rfl).1 (zav_i (zav_i zav_0))) ?_
  have hB0 : rB (zup I 74 0 (nI 0)) S.2.1 := (rI_rQ hI rQ_thr).2.2.1
  unfold q_net at hx
  rcases rT_cons hx with ⟨c, rfl⟩ | ⟨h0, hx⟩
  · obtain ⟨k1, k2, k3⟩ := rI_bad (w := 1) (k := true) hI
    refine zJ_aload_n dX13_net_0 rfl ?_
    refine zJ_iconst (v := nI 0) dX13_net_1 rfl ?_
    refine zP_puti lf_X13_107 (zSt_ob hs 74 13 rfl) rfl dX13_net_2 ?_
    refine zJ_aload_n dX13_net_5 rfl ?_
    refine zJ_aload_n dX13_net_6 rfl ?_
    refine zJ_iload_n dX13_net_7 rfl ?_
    refine zP_callVi [_] _ lv_X13_412 (m_isNet (d := d - 1) hl (by omega) hs hB0) (zSt_ob hs 74 13 rfl) rfl (by omega) (Nat.le_of_ble_eq_true rfl) rfl dX13_net_8 ?_
    rw [c]
    refine zJ_if_ne 18 dX13_net_11 (by decide) (fun c11 => absurd rfl c11) (fun _ => ?_)
    refine zJ_iconst (v := nI 1) dX13_net_14 rfl ?_
    refine zJ_goto 19 dX13_net_15 (by decide) ?_
    refine zJ_iconst (v := nI 1) dX13_net_19 rfl ?_
    refine zJ_iconst (v := nI 0) dX13_net_20 rfl ?_
    refine zP_callVi [_, _, _] _ lv_X13_186 (m_badT (d := d - 1) (w := 1) (r := 0) hl (by omega) hs thr_at (by omega) (by omega)) (zSt_ob hs 74 13 rfl) rfl (by omega) (Nat.le_of_ble_eq_true rfl) rfl dX13_net_21 ?_
    refine zJ_if_ne 51 dX13_net_24 (by decide) (fun _ => ?_) (fun c24 => absurd c24 (by decide))
    refine zJ_iconst (v := nI 0) dX13_net_51 rfl ?_
    refine zJ_iret rfl dX13_net_52 ?_
    exact ⟨_, _, rfl, rfl, k2, k1, k3⟩
  rcases rT_cons hx with ⟨c, rfl⟩ | ⟨h1, hx⟩
  · obtain ⟨k1, k2, k3⟩ := rI_bad (w := 2) (k := false) hI
    refine zJ_aload_n dX13_net_0 rfl ?_
    refine zJ_iconst (v := nI 0) dX13_net_1 rfl ?_
    refine zP_puti lf_X13_107 (zSt_ob hs 74 13 rfl) rfl dX13_net_2 ?_
    refine zJ_aload_n dX13_net_5 rfl ?_
    refine zJ_aload_n dX13_net_6 rfl ?_
    refine zJ_iload_n dX13_net_7 rfl ?_
    refine zP_callVi [_] _ lv_X13_412 (m_isNet (d := d - 1) hl (by omega) hs hB0) (zSt_ob hs 74 13 rfl) rfl (by omega) (Nat.le_of_ble_eq_true rfl) rfl dX13_net_8 ?_
    rw [h0]
    refine zJ_if_ne 18 dX13_net_11 (by decide) (fun _ => ?_) (fun c11 => absurd c11 (by decide))
    refine zJ_iconst (v := nI 0) dX13_net_18 rfl ?_
    refine zJ_iconst (v := nI 1) dX13_net_19 rfl ?_
    refine zJ_iconst (v := nI 0) dX13_net_20 rfl ?_
    refine zP_callVi [_, _, _] _ lv_X13_186 (m_badF (d := d - 1) hl (by omega) hs thr_at) (zSt_ob hs 74 13 rfl) rfl (by omega) (Nat.le_of_ble_eq_true rfl) rfl dX13_net_21 ?_
    refine zJ_if_ne 51 dX13_net_24 (by decide) (fun c24 => absurd rfl c24) (fun _ => ?_)
    refine zJ_aload_n dX13_net_27 rfl ?_
    refine zJ_iload_n dX13_net_28 rfl ?_
    refine zJ_iconst (v := nI 0) dX13_net_29 rfl ?_
    refine zJ_bipush (v := nI 10) dX13_net_30 rfl ?_
    refine zP_callSi [_, _, _] _ ls_X13_141 (k_in (d := d - 1) hl (by omega)) rfl (by omega) (Nat.le_of_ble_eq_true rfl) rfl dX13_net_32 ?_
    rw [show decide (¬ a2 < (nI 0) ∧ a2 ≤ (nI 10)) = false from c]
    refine zJ_if_ne 42 dX13_net_35 (by decide) (fun c35 => absurd rfl c35) (fun _ => ?_)
    refine zJ_iconst (v := nI 1) dX13_net_38 rfl ?_
    refine zJ_goto 43 dX13_net_39 (by decide) ?_
    refine zJ_iconst (v := nI 2) dX13_net_43 rfl ?_
    refine zJ_iconst (v := nI 1) dX13_net_44 rfl ?_
    refine zP_callVi [_, _, _] _ lv_X13_186 (m_badT (d := d - 1) (w := 2) (r := 1) hl (by omega) hs thr_at (by omega) (by omega)) (zSt_ob hs 74 13 rfl) rfl (by omega) (Nat.le_of_ble_eq_true rfl) rfl dX13_net_45 ?_
    refine zJ_if_eq 53 dX13_net_48 (by decide) (fun c48 => absurd c48 (by decide)) (fun _ => ?_)
    refine zJ_iconst (v := nI 0) dX13_net_51 rfl ?_
    refine zJ_iret rfl dX13_net_52 ?_
    exact ⟨_, _, rfl, rfl, k2, k1, k3⟩
  cases hx
def q_place (S : sT) (a1 a2 a3 : Int32) : List (Bool × Bool) := [(qPl S.2.1 a1 a2, true), (nRange a3 (nI 0) (nI 6), false)]
theorem m_placeN (hl : l.stackTraces = false) (hd : 12 ≤ d) (hs : zSt g) {S : sT} (hI : rI I S) {a1 a2 a3 : Int32} {k : Bool} (hx : rT (q_place S a1 a2 a3) = some k) : zEi l Xi mX13_place d [.ref 74, .int a1, .int a2, .int a3] I g (fun v J => J 74 0 = nI (if k then 1 else 2) ∧ rI J (rfU S k) ∧ rQ2 I J) := by
  refine zC_of hl rfl rfl rfl (Nat.le_of_ble_eq_true rfl) (zav_r (zSt_ob hs 74 13 rfl).1 (zav_i (zav_i (zav_i zav_0)))) ?_
  have hB0 : rB (zup I 74 0 (nI 0)) S.2.1 := (rI_rQ hI rQ_thr).2.2.1
  unfold q_place at hx
  rcases rT_cons hx with ⟨c, rfl⟩ | ⟨h0, hx⟩
  · obtain ⟨k1, k2, k3⟩ := rI_bad (w := 1) (k := true) hI
    refine zJ_aload_n dX13_place_0 rfl ?_
    refine zJ_iconst (v := nI 0) dX13_place_1 rfl ?_
    refine zP_puti lf_X13_107 (zSt_ob hs 74 13 rfl) rfl dX13_place_2 ?_
    refine zJ_aload_n dX13_place_5 rfl ?_
    refine zJ_aload_n dX13_place_6 rfl ?_
    refine zJ_iload_n dX13_place_7 rfl ?_
    refine zJ_iload_n dX13_place_8 rfl ?_
    refine zP_callVi [_, _] _ lv_X13_281 (k_isWithin (d := d - 1) hl (by omega) hs hB0) (zSt_ob hs 74 13 rfl) rfl (by omega) (Nat.le_of_ble_eq_true rfl) rfl dX13_place_9 ?_
    rw [qPl_eq hB0.1, c]
    refine zJ_if_ne 19 dX13_place_12 (by decide) (fun c12 => absurd rfl c12) (fun _ => ?_)
    refine zJ_iconst (v := nI 1) dX13_place_15 rfl ?_
    refine zJ_goto 20 dX13_place_16 (by decide) ?_
    refine zJ_iconst (v := nI 1) dX13_place_20 rfl ?_
    refine zJ_iconst (v := nI 0) dX13_place_21 rfl ?_
    refine zP_callVi [_, _, _] _ lv_X13_186 (m_badT (d := d - 1) (w := 1) (r := 0) hl (by omega) hs thr_at (by omega) (by omega)) (zSt_ob hs 74 13 rfl) rfl (by omega) (Nat.le_of_ble_eq_true rfl) rfl dX13_place_22 ?_
    refine zJ_if_ne 52 dX13_place_25 (by decide) (fun _ => ?_) (fun c25 => absurd c25 (by decide))
    refine zJ_iconst (v := nI 0) dX13_place_52 rfl ?_
    refine zJ_iret rfl dX13_place_53 ?_
    exact ⟨_, _, rfl, rfl, k2, k1, k3⟩
  rcases rT_cons hx with ⟨c, rfl⟩ | ⟨h1, hx⟩
  · obtain ⟨k1, k2, k3⟩ := rI_bad (w := 2) (k := false) hI
    refine zJ_aload_n dX13_place_0 rfl ?_
    refine zJ_iconst (v := nI 0) dX13_place_1 rfl ?_
    refine zP_puti lf_X13_107 (zSt_ob hs 74 13 rfl) rfl dX13_place_2 ?_
    refine zJ_aload_n dX13_place_5 rfl ?_
    refine zJ_aload_n dX13_place_6 rfl ?_
    refine zJ_iload_n dX13_place_7 rfl ?_
    refine zJ_iload_n dX13_place_8 rfl ?_
    refine zP_callVi [_, _] _ lv_X13_281 (k_isWithin (d := d - 1) hl (by omega) hs hB0) (zSt_ob hs 74 13 rfl) rfl (by omega) (Nat.le_of_ble_eq_true rfl) rfl dX13_place_9 ?_
    rw [qPl_eq hB0.1, h0]
    refine zJ_if_ne 19 dX13_place_12 (by decide) (fun _ => ?_) (fun c12 => absurd c12 (by decide))
    refine zJ_iconst (v := nI 0) dX13_place_19 rfl ?_
    refine zJ_iconst (v := nI 1) dX13_place_20 rfl ?_
    refine zJ_iconst (v := nI 0) dX13_place_21 rfl ?_
    refine zP_callVi [_, _, _] _ lv_X13_186 (m_badF (d := d - 1) hl (by omega) hs thr_at) (zSt_ob hs 74 13 rfl) rfl (by omega) (Nat.le_of_ble_eq_true rfl) rfl dX13_place_22 ?_
    refine zJ_if_ne 52 dX13_place_25 (by decide) (fun c25 => absurd rfl c25) (fun _ => ?_)
    refine zJ_aload_n dX13_place_28 rfl ?_
    refine zJ_iload_n dX13_place_29 rfl ?_
    refine zJ_iconst (v := nI 0) dX13_place_30 rfl ?_
    refine zJ_bipush (v := nI 6) dX13_place_31 rfl ?_
    refine zP_callSi [_, _, _] _ ls_X13_141 (k_in (d := d - 1) hl (by omega)) rfl (by omega) (Nat.le_of_ble_eq_true rfl) rfl dX13_place_33 ?_
    rw [show decide (¬ a3 < (nI 0) ∧ a3 ≤ (nI 6)) = false from c]
    refine zJ_if_ne 43 dX13_place_36 (by decide) (fun c36 => absurd rfl c36) (fun _ => ?_)
    refine zJ_iconst (v := nI 1) dX13_place_39 rfl ?_
    refine zJ_goto 44 dX13_place_40 (by decide) ?_
    refine zJ_iconst (v := nI 2) dX13_place_44 rfl ?_
    refine zJ_iconst (v := nI 1) dX13_place_45 rfl ?_
    refine zP_callVi [_, _, _] _ lv_X13_186 (m_badT (d := d - 1) (w := 2) (r := 1) hl (by omega) hs thr_at (by omega) (by omega)) (zSt_ob hs 74 13 rfl) rfl (by omega) (Nat.le_of_ble_eq_true rfl) rfl dX13_place_46 ?_
    refine zJ_if_eq 54 dX13_place_49 (by decide) (fun c49 => absurd c49 (by decide)) (fun _ => ?_)
    refine zJ_iconst (v := nI 0) dX13_place_52 rfl ?_
    refine zJ_iret rfl dX13_place_53 ?_
    exact ⟨_, _, rfl, rfl, k2, k1, k3⟩
  cases hx
def q_would (S : sT) (a1 a2 a3 a4 a5 a6 a7 a8 : Int32) : List (Bool × Bool) := [(nRange a1 (nI 0) (nI 9999), false), (nRange a2 (nI 0) (nI 6), false), (nRange a3 (nI 0) (nI 9), false), (nRange a4 (nI 0) (nI 400), false), (nRange a5 (nI 1) (nI 3), false), (nRange a6 (nI 0) (nI 7), false), (nRange a7 (nI 0) (nI 7), false), (nRange a8 (nI 0) (nI 6), false)]
theorem m_wouldN (hl : l.stackTraces = false) (hd : 12 ≤ d) (hs : zSt g) {S : sT} (hI : rI I S) {a1 a2 a3 a4 a5 a6 a7 a8 : Int32} {k : Bool} (hx : rT (q_would S a1 a2 a3 a4 a5 a6 a7 a8) = some k) : zEi l Xi mX13_would d [.ref 74, .int a1, .int a2, .int a3, .int a4, .int a5, .int a6, .int a7, .int a8] I g (fun v J => J 74 0 = nI 1 ∧ rI J (rfU S k) ∧ rQ2 I J) := by
  refine zC_of hl rfl rfl rfl (Nat.le_of_ble_eq_true rfl) (zav_r (zSt_ob hs 74 13 rfl).1 (zav_i (zav_i (zav_i (zav_i (zav_i (zav_i (zav_i (zav_i zav_0))))))))) ?_
  have hB0 : rB (zup I 74 0 (nI 0)) S.2.1 := (rI_rQ hI rQ_thr).2.2.1
  unfold q_would at hx
  rcases rT_cons hx with ⟨c, rfl⟩ | ⟨h0, hx⟩
  · obtain ⟨k1, k2, k3⟩ := rI_bad (w := 1) (k := false) hI
    refine zJ_aload_n dX13_would_0 rfl ?_
    refine zJ_iconst (v := nI 0) dX13_would_1 rfl ?_
    refine zP_puti lf_X13_107 (zSt_ob hs 74 13 rfl) rfl dX13_would_2 ?_
    refine zJ_aload_n dX13_would_5 rfl ?_
    refine zJ_iload_n dX13_would_6 rfl ?_
    refine zJ_iconst (v := nI 0) dX13_would_7 rfl ?_
    refine zJ_sipush (v := nI 9999) dX13_would_8 rfl ?_
    refine zP_callSi [_, _, _] _ ls_X13_141 (k_in (d := d - 1) hl (by omega)) rfl (by omega) (Nat.le_of_ble_eq_true rfl) rfl dX13_would_11 ?_
    rw [show decide (¬ a1 < (nI 0) ∧ a1 ≤ (nI 9999)) = false from c]
    refine zJ_if_eq 92 dX13_would_14 (by decide) (fun _ => ?_) (fun c14 => absurd rfl c14)
    refine zJ_iconst (v := nI 1) dX13_would_92 rfl ?_
    refine zJ_goto 97 dX13_would_93 (by decide) ?_
    refine zJ_iconst (v := nI 1) dX13_would_97 rfl ?_
    refine zJ_iconst (v := nI 1) dX13_would_98 rfl ?_
    refine zP_callVi [_, _, _] _ lv_X13_186 (m_badT (d := d - 1) (w := 1) (r := 1) hl (by omega) hs thr_at (by omega) (by omega)) (zSt_ob hs 74 13 rfl) rfl (by omega) (Nat.le_of_ble_eq_true rfl) rfl dX13_would_99 ?_
    refine zJ_if_eq 107 dX13_would_102 (by decide) (fun c102 => absurd c102 (by decide)) (fun _ => ?_)
    refine zJ_iconst (v := nI 0) dX13_would_105 rfl ?_
    refine zJ_iret rfl dX13_would_106 ?_
    exact ⟨_, _, rfl, rfl, k2, k1, k3⟩
  rcases rT_cons hx with ⟨c, rfl⟩ | ⟨h1, hx⟩
  · obtain ⟨k1, k2, k3⟩ := rI_bad (w := 1) (k := false) hI
    refine zJ_aload_n dX13_would_0 rfl ?_
    refine zJ_iconst (v := nI 0) dX13_would_1 rfl ?_
    refine zP_puti lf_X13_107 (zSt_ob hs 74 13 rfl) rfl dX13_would_2 ?_
    refine zJ_aload_n dX13_would_5 rfl ?_
    refine zJ_iload_n dX13_would_6 rfl ?_
    refine zJ_iconst (v := nI 0) dX13_would_7 rfl ?_
    refine zJ_sipush (v := nI 9999) dX13_would_8 rfl ?_
    refine zP_callSi [_, _, _] _ ls_X13_141 (k_in (d := d - 1) hl (by omega)) rfl (by omega) (Nat.le_of_ble_eq_true rfl) rfl dX13_would_11 ?_
    rw [show decide (¬ a1 < (nI 0) ∧ a1 ≤ (nI 9999)) = true from h0]
    refine zJ_if_eq 92 dX13_would_14 (by decide) (fun c14 => absurd c14 (by decide)) (fun _ => ?_)
    refine zJ_iload_n dX13_would_17 rfl ?_
    refine zJ_iconst (v := nI 0) dX13_would_18 rfl ?_
    refine zJ_bipush (v := nI 6) dX13_would_19 rfl ?_
    refine zP_callSi [_, _, _] _ ls_X13_141 (k_in (d := d - 1) hl (by omega)) rfl (by omega) (Nat.le_of_ble_eq_true rfl) rfl dX13_would_21 ?_
    rw [show decide (¬ a2 < (nI 0) ∧ a2 ≤ (nI 6)) = false from c]
    refine zJ_if_eq 92 dX13_would_24 (by decide) (fun _ => ?_) (fun c24 => absurd rfl c24)
    refine zJ_iconst (v := nI 1) dX13_would_92 rfl ?_
    refine zJ_goto 97 dX13_would_93 (by decide) ?_
    refine zJ_iconst (v := nI 1) dX13_would_97 rfl ?_
    refine zJ_iconst (v := nI 1) dX13_would_98 rfl ?_
    refine zP_callVi [_, _, _] _ lv_X13_186 (m_badT (d := d - 1) (w := 1) (r := 1) hl (by omega) hs thr_at (by omega) (by omega)) (zSt_ob hs 74 13 rfl) rfl (by omega) (Nat.le_of_ble_eq_true rfl) rfl dX13_would_99 ?_
    refine zJ_if_eq 107 dX13_would_102 (by decide) (fun c102 => absurd c102 (by decide)) (fun _ => ?_)
    refine zJ_iconst (v := nI 0) dX13_would_105 rfl ?_
    refine zJ_iret rfl dX13_would_106 ?_
    exact ⟨_, _, rfl, rfl, k2, k1, k3⟩
  rcases rT_cons hx with ⟨c, rfl⟩ | ⟨h2, hx⟩
  · obtain ⟨k1, k2, k3⟩ := rI_bad (w := 1) (k := false) hI
    refine zJ_aload_n dX13_would_0 rfl ?_
    refine zJ_iconst (v := nI 0) dX13_would_1 rfl ?_
    refine zP_puti lf_X13_107 (zSt_ob hs 74 13 rfl) rfl dX13_would_2 ?_
    refine zJ_aload_n dX13_would_5 rfl ?_
    refine zJ_iload_n dX13_would_6 rfl ?_
    refine zJ_iconst (v := nI 0) dX13_would_7 rfl ?_
    refine zJ_sipush (v := nI 9999) dX13_would_8 rfl ?_
    refine zP_callSi [_, _, _] _ ls_X13_141 (k_in (d := d - 1) hl (by omega)) rfl (by omega) (Nat.le_of_ble_eq_true rfl) rfl dX13_would_11 ?_
    rw [show decide (¬ a1 < (nI 0) ∧ a1 ≤ (nI 9999)) = true from h0]
    refine zJ_if_eq 92 dX13_would_14 (by decide) (fun c14 => absurd c14 (by decide)) (fun _ => ?_)
    refine zJ_iload_n dX13_would_17 rfl ?_
    refine zJ_iconst (v := nI 0) dX13_would_18 rfl ?_
    refine zJ_bipush (v := nI 6) dX13_would_19 rfl ?_
    refine zP_callSi [_, _, _] _ ls_X13_141 (k_in (d := d - 1) hl (by omega)) rfl (by omega) (Nat.le_of_ble_eq_true rfl) rfl dX13_would_21 ?_
    rw [show decide (¬ a2 < (nI 0) ∧ a2 ≤ (nI 6)) = true from h1]
    refine zJ_if_eq 92 dX13_would_24 (by decide) (fun c24 => absurd c24 (by decide)) (fun _ => ?_)
    refine zJ_iload_n dX13_would_27 rfl ?_
    refine zJ_iconst (v := nI 0) dX13_would_28 rfl ?_
    refine zJ_bipush (v := nI 9) dX13_would_29 rfl ?_
    refine zP_callSi [_, _, _] _ ls_X13_141 (k_in (d := d - 1) hl (by omega)) rfl (by omega) (Nat.le_of_ble_eq_true rfl) rfl dX13_would_31 ?_
    rw [show decide (¬ a3 < (nI 0) ∧ a3 ≤ (nI 9)) = false from c]
    refine zJ_if_eq 92 dX13_would_34 (by decide) (fun _ => ?_) (fun c34 => absurd rfl c34)
    refine zJ_iconst (v := nI 1) dX13_would_92 rfl ?_
    refine zJ_goto 97 dX13_would_93 (by decide) ?_
    refine zJ_iconst (v := nI 1) dX13_would_97 rfl ?_
    refine zJ_iconst (v := nI 1) dX13_would_98 rfl ?_
    refine zP_callVi [_, _, _] _ lv_X13_186 (m_badT (d := d - 1) (w := 1) (r := 1) hl (by omega) hs thr_at (by omega) (by omega)) (zSt_ob hs 74 13 rfl) rfl (by omega) (Nat.le_of_ble_eq_true rfl) rfl dX13_would_99 ?_
    refine zJ_if_eq 107 dX13_would_102 (by decide) (fun c102 => absurd c102 (by decide)) (fun _ => ?_)
    refine zJ_iconst (v := nI 0) dX13_would_105 rfl ?_
    refine zJ_iret rfl dX13_would_106 ?_
    exact ⟨_, _, rfl, rfl, k2, k1, k3⟩
  rcases rT_cons hx with ⟨c, rfl⟩ | ⟨h3, hx⟩
  · obtain ⟨k1, k2, k3⟩ := rI_bad (w := 1) (k := false) hI
    refine zJ_aload_n dX13_would_0 rfl ?_
    refine zJ_iconst (v := nI 0) dX13_would_1 rfl ?_
    refine zP_puti lf_X13_107 (zSt_ob hs 74 13 rfl) rfl dX13_would_2 ?_
    refine zJ_aload_n dX13_would_5 rfl ?_
    refine zJ_iload_n dX13_would_6 rfl ?_
    refine zJ_iconst (v := nI 0) dX13_would_7 rfl ?_
    refine zJ_sipush (v := nI 9999) dX13_would_8 rfl ?_
    refine zP_callSi [_, _, _] _ ls_X13_141 (k_in (d := d - 1) hl (by omega)) rfl (by omega) (Nat.le_of_ble_eq_true rfl) rfl dX13_would_11 ?_
    rw [show decide (¬ a1 < (nI 0) ∧ a1 ≤ (nI 9999)) = true from h0]
    refine zJ_if_eq 92 dX13_would_14 (by decide) (fun c14 => absurd c14 (by decide)) (fun _ => ?_)
    refine zJ_iload_n dX13_would_17 rfl ?_
    refine zJ_iconst (v := nI 0) dX13_would_18 rfl ?_
    refine zJ_bipush (v := nI 6) dX13_would_19 rfl ?_
    refine zP_callSi [_, _, _] _ ls_X13_141 (k_in (d := d - 1) hl (by omega)) rfl (by omega) (Nat.le_of_ble_eq_true rfl) rfl dX13_would_21 ?_
    rw [show decide (¬ a2 < (nI 0) ∧ a2 ≤ (nI 6)) = true from h1]
    refine zJ_if_eq 92 dX13_would_24 (by decide) (fun c24 => absurd c24 (by decide)) (fun _ => ?_)
    refine zJ_iload_n dX13_would_27 rfl ?_
    refine zJ_iconst (v := nI 0) dX13_would_28 rfl ?_
    refine zJ_bipush (v := nI 9) dX13_would_29 rfl ?_
    refine zP_callSi [_, _, _] _ ls_X13_141 (k_in (d := d - 1) hl (by omega)) rfl (by omega) (Nat.le_of_ble_eq_true rfl) rfl dX13_would_31 ?_
    rw [show decide (¬ a3 < (nI 0) ∧ a3 ≤ (nI 9)) = true from h2]
    refine zJ_if_eq 92 dX13_would_34 (by decide) (fun c34 => absurd c34 (by decide)) (fun _ => ?_)
    refine zJ_iload dX13_would_37 rfl ?_
    refine zJ_iconst (v := nI 0) dX13_would_39 rfl ?_
    refine zJ_sipush (v := nI 400) dX13_would_40 rfl ?_
    refine zP_callSi [_, _, _] _ ls_X13_141 (k_in (d := d - 1) hl (by omega)) rfl (by omega) (Nat.le_of_ble_eq_true rfl) rfl dX13_would_43 ?_
    rw [show decide (¬ a4 < (nI 0) ∧ a4 ≤ (nI 400)) = false from c]
    refine zJ_if_eq 92 dX13_would_46 (by decide) (fun _ => ?_) (fun c46 => absurd rfl c46)
    refine zJ_iconst (v := nI 1) dX13_would_92 rfl ?_
    refine zJ_goto 97 dX13_would_93 (by decide) ?_
    refine zJ_iconst (v := nI 1) dX13_would_97 rfl ?_
    refine zJ_iconst (v := nI 1) dX13_would_98 rfl ?_
    refine zP_callVi [_, _, _] _ lv_X13_186 (m_badT (d := d - 1) (w := 1) (r := 1) hl (by omega) hs thr_at (by omega) (by omega)) (zSt_ob hs 74 13 rfl) rfl (by omega) (Nat.le_of_ble_eq_true rfl) rfl dX13_would_99 ?_
    refine zJ_if_eq 107 dX13_would_102 (by decide) (fun c102 => absurd c102 (by decide)) (fun _ => ?_)
    refine zJ_iconst (v := nI 0) dX13_would_105 rfl ?_
    refine zJ_iret rfl dX13_would_106 ?_
    exact ⟨_, _, rfl, rfl, k2, k1, k3⟩
  rcases rT_cons hx with ⟨c, rfl⟩ | ⟨h4, hx⟩
  · obtain ⟨k1, k2, k3⟩ := rI_bad (w := 1) (k := false) hI
    refine zJ_aload_n dX13_would_0 rfl ?_
    refine zJ_iconst (v := nI 0) dX13_would_1 rfl ?_
    refine zP_puti lf_X13_107 (zSt_ob hs 74 13 rfl) rfl dX13_would_2 ?_
    refine zJ_aload_n dX13_would_5 rfl ?_
    refine zJ_iload_n dX13_would_6 rfl ?_
    refine zJ_iconst (v := nI 0) dX13_would_7 rfl ?_
    refine zJ_sipush (v := nI 9999) dX13_would_8 rfl ?_
    refine zP_callSi [_, _, _] _ ls_X13_141 (k_in (d := d - 1) hl (by omega)) rfl (by omega) (Nat.le_of_ble_eq_true rfl) rfl dX13_would_11 ?_
    rw [show decide (¬ a1 < (nI 0) ∧ a1 ≤ (nI 9999)) = true from h0]
    refine zJ_if_eq 92 dX13_would_14 (by decide) (fun c14 => absurd c14 (by decide)) (fun _ => ?_)
    refine zJ_iload_n dX13_would_17 rfl ?_
    refine zJ_iconst (v := nI 0) dX13_would_18 rfl ?_
    refine zJ_bipush (v := nI 6) dX13_would_19 rfl ?_
    refine zP_callSi [_, _, _] _ ls_X13_141 (k_in (d := d - 1) hl (by omega)) rfl (by omega) (Nat.le_of_ble_eq_true rfl) rfl dX13_would_21 ?_
    rw [show decide (¬ a2 < (nI 0) ∧ a2 ≤ (nI 6)) = true from h1]
    refine zJ_if_eq 92 dX13_would_24 (by decide) (fun c24 => absurd c24 (by decide)) (fun _ => ?_)
    refine zJ_iload_n dX13_would_27 rfl ?_
    refine zJ_iconst (v := nI 0) dX13_would_28 rfl ?_
    refine zJ_bipush (v := nI 9) dX13_would_29 rfl ?_
    refine zP_callSi [_, _, _] _ ls_X13_141 (k_in (d := d - 1) hl (by omega)) rfl (by omega) (Nat.le_of_ble_eq_true rfl) rfl dX13_would_31 ?_
    rw [show decide (¬ a3 < (nI 0) ∧ a3 ≤ (nI 9)) = true from h2]
    refine zJ_if_eq 92 dX13_would_34 (by decide) (fun c34 => absurd c34 (by decide)) (fun _ => ?_)
    refine zJ_iload dX13_would_37 rfl ?_
    refine zJ_iconst (v := nI 0) dX13_would_39 rfl ?_
    refine zJ_sipush (v := nI 400) dX13_would_40 rfl ?_
    refine zP_callSi [_, _, _] _ ls_X13_141 (k_in (d := d - 1) hl (by omega)) rfl (by omega) (Nat.le_of_ble_eq_true rfl) rfl dX13_would_43 ?_
    rw [show decide (¬ a4 < (nI 0) ∧ a4 ≤ (nI 400)) = true from h3]
    refine zJ_if_eq 92 dX13_would_46 (by decide) (fun c46 => absurd c46 (by decide)) (fun _ => ?_)
    refine zJ_iload dX13_would_49 rfl ?_
    refine zJ_iconst (v := nI 1) dX13_would_51 rfl ?_
    refine zJ_iconst (v := nI 3) dX13_would_52 rfl ?_
    refine zP_callSi [_, _, _] _ ls_X13_141 (k_in (d := d - 1) hl (by omega)) rfl (by omega) (Nat.le_of_ble_eq_true rfl) rfl dX13_would_53 ?_
    rw [show decide (¬ a5 < (nI 1) ∧ a5 ≤ (nI 3)) = false from c]
    refine zJ_if_eq 92 dX13_would_56 (by decide) (fun _ => ?_) (fun c56 => absurd rfl c56)
    refine zJ_iconst (v := nI 1) dX13_would_92 rfl ?_
    refine zJ_goto 97 dX13_would_93 (by decide) ?_
    refine zJ_iconst (v := nI 1) dX13_would_97 rfl ?_
    refine zJ_iconst (v := nI 1) dX13_would_98 rfl ?_
    refine zP_callVi [_, _, _] _ lv_X13_186 (m_badT (d := d - 1) (w := 1) (r := 1) hl (by omega) hs thr_at (by omega) (by omega)) (zSt_ob hs 74 13 rfl) rfl (by omega) (Nat.le_of_ble_eq_true rfl) rfl dX13_would_99 ?_
    refine zJ_if_eq 107 dX13_would_102 (by decide) (fun c102 => absurd c102 (by decide)) (fun _ => ?_)
    refine zJ_iconst (v := nI 0) dX13_would_105 rfl ?_
    refine zJ_iret rfl dX13_would_106 ?_
    exact ⟨_, _, rfl, rfl, k2, k1, k3⟩
  rcases rT_cons hx with ⟨c, rfl⟩ | ⟨h5, hx⟩
  · obtain ⟨k1, k2, k3⟩ := rI_bad (w := 1) (k := false) hI
    refine zJ_aload_n dX13_would_0 rfl ?_
    refine zJ_iconst (v := nI 0) dX13_would_1 rfl ?_
    refine zP_puti lf_X13_107 (zSt_ob hs 74 13 rfl) rfl dX13_would_2 ?_
    refine zJ_aload_n dX13_would_5 rfl ?_
    refine zJ_iload_n dX13_would_6 rfl ?_
    refine zJ_iconst (v := nI 0) dX13_would_7 rfl ?_
    refine zJ_sipush (v := nI 9999) dX13_would_8 rfl ?_
    refine zP_callSi [_, _, _] _ ls_X13_141 (k_in (d := d - 1) hl (by omega)) rfl (by omega) (Nat.le_of_ble_eq_true rfl) rfl dX13_would_11 ?_
    rw [show decide (¬ a1 < (nI 0) ∧ a1 ≤ (nI 9999)) = true from h0]
    refine zJ_if_eq 92 dX13_would_14 (by decide) (fun c14 => absurd c14 (by decide)) (fun _ => ?_)
    refine zJ_iload_n dX13_would_17 rfl ?_
    refine zJ_iconst (v := nI 0) dX13_would_18 rfl ?_
    refine zJ_bipush (v := nI 6) dX13_would_19 rfl ?_
    refine zP_callSi [_, _, _] _ ls_X13_141 (k_in (d := d - 1) hl (by omega)) rfl (by omega) (Nat.le_of_ble_eq_true rfl) rfl dX13_would_21 ?_
    rw [show decide (¬ a2 < (nI 0) ∧ a2 ≤ (nI 6)) = true from h1]
    refine zJ_if_eq 92 dX13_would_24 (by decide) (fun c24 => absurd c24 (by decide)) (fun _ => ?_)
    refine zJ_iload_n dX13_would_27 rfl ?_
    refine zJ_iconst (v := nI 0) dX13_would_28 rfl ?_
    refine zJ_bipush (v := nI 9) dX13_would_29 rfl ?_
    refine zP_callSi [_, _, _] _ ls_X13_141 (k_in (d := d - 1) hl (by omega)) rfl (by omega) (Nat.le_of_ble_eq_true rfl) rfl dX13_would_31 ?_
    rw [show decide (¬ a3 < (nI 0) ∧ a3 ≤ (nI 9)) = true from h2]
    refine zJ_if_eq 92 dX13_would_34 (by decide) (fun c34 => absurd c34 (by decide)) (fun _ => ?_)
    refine zJ_iload dX13_would_37 rfl ?_
    refine zJ_iconst (v := nI 0) dX13_would_39 rfl ?_
    refine zJ_sipush (v := nI 400) dX13_would_40 rfl ?_
    refine zP_callSi [_, _, _] _ ls_X13_141 (k_in (d := d - 1) hl (by omega)) rfl (by omega) (Nat.le_of_ble_eq_true rfl) rfl dX13_would_43 ?_
    rw [show decide (¬ a4 < (nI 0) ∧ a4 ≤ (nI 400)) = true from h3]
    refine zJ_if_eq 92 dX13_would_46 (by decide) (fun c46 => absurd c46 (by decide)) (fun _ => ?_)
    refine zJ_iload dX13_would_49 rfl ?_
    refine zJ_iconst (v := nI 1) dX13_would_51 rfl ?_
    refine zJ_iconst (v := nI 3) dX13_would_52 rfl ?_
    refine zP_callSi [_, _, _] _ ls_X13_141 (k_in (d := d - 1) hl (by omega)) rfl (by omega) (Nat.le_of_ble_eq_true rfl) rfl dX13_would_53 ?_
    rw [show decide (¬ a5 < (nI 1) ∧ a5 ≤ (nI 3)) = true from h4]
    refine zJ_if_eq 92 dX13_would_56 (by decide) (fun c56 => absurd c56 (by decide)) (fun _ => ?_)
    refine zJ_iload dX13_would_59 rfl ?_
    refine zJ_iconst (v := nI 0) dX13_would_61 rfl ?_
    refine zJ_bipush (v := nI 7) dX13_would_62 rfl ?_
    refine zP_callSi [_, _, _] _ ls_X13_141 (k_in (d := d - 1) hl (by omega)) rfl (by omega) (Nat.le_of_ble_eq_true rfl) rfl dX13_would_64 ?_
    rw [show decide (¬ a6 < (nI 0) ∧ a6 ≤ (nI 7)) = false from c]
    refine zJ_if_eq 92 dX13_would_67 (by decide) (fun _ => ?_) (fun c67 => absurd rfl c67)
    refine zJ_iconst (v := nI 1) dX13_would_92 rfl ?_
    refine zJ_goto 97 dX13_would_93 (by decide) ?_
    refine zJ_iconst (v := nI 1) dX13_would_97 rfl ?_
    refine zJ_iconst (v := nI 1) dX13_would_98 rfl ?_
    refine zP_callVi [_, _, _] _ lv_X13_186 (m_badT (d := d - 1) (w := 1) (r := 1) hl (by omega) hs thr_at (by omega) (by omega)) (zSt_ob hs 74 13 rfl) rfl (by omega) (Nat.le_of_ble_eq_true rfl) rfl dX13_would_99 ?_
    refine zJ_if_eq 107 dX13_would_102 (by decide) (fun c102 => absurd c102 (by decide)) (fun _ => ?_)
    refine zJ_iconst (v := nI 0) dX13_would_105 rfl ?_
    refine zJ_iret rfl dX13_would_106 ?_
    exact ⟨_, _, rfl, rfl, k2, k1, k3⟩
  rcases rT_cons hx with ⟨c, rfl⟩ | ⟨h6, hx⟩
  · obtain ⟨k1, k2, k3⟩ := rI_bad (w := 1) (k := false) hI
    refine zJ_aload_n dX13_would_0 rfl ?_
    refine zJ_iconst (v := nI 0) dX13_would_1 rfl ?_
    refine zP_puti lf_X13_107 (zSt_ob hs 74 13 rfl) rfl dX13_would_2 ?_
    refine zJ_aload_n dX13_would_5 rfl ?_
    refine zJ_iload_n dX13_would_6 rfl ?_
    refine zJ_iconst (v := nI 0) dX13_would_7 rfl ?_
    refine zJ_sipush (v := nI 9999) dX13_would_8 rfl ?_
    refine zP_callSi [_, _, _] _ ls_X13_141 (k_in (d := d - 1) hl (by omega)) rfl (by omega) (Nat.le_of_ble_eq_true rfl) rfl dX13_would_11 ?_
    rw [show decide (¬ a1 < (nI 0) ∧ a1 ≤ (nI 9999)) = true from h0]
    refine zJ_if_eq 92 dX13_would_14 (by decide) (fun c14 => absurd c14 (by decide)) (fun _ => ?_)
    refine zJ_iload_n dX13_would_17 rfl ?_
    refine zJ_iconst (v := nI 0) dX13_would_18 rfl ?_
    refine zJ_bipush (v := nI 6) dX13_would_19 rfl ?_
    refine zP_callSi [_, _, _] _ ls_X13_141 (k_in (d := d - 1) hl (by omega)) rfl (by omega) (Nat.le_of_ble_eq_true rfl) rfl dX13_would_21 ?_
    rw [show decide (¬ a2 < (nI 0) ∧ a2 ≤ (nI 6)) = true from h1]
    refine zJ_if_eq 92 dX13_would_24 (by decide) (fun c24 => absurd c24 (by decide)) (fun _ => ?_)
    refine zJ_iload_n dX13_would_27 rfl ?_
    refine zJ_iconst (v := nI 0) dX13_would_28 rfl ?_
    refine zJ_bipush (v := nI 9) dX13_would_29 rfl ?_
    refine zP_callSi [_, _, _] _ ls_X13_141 (k_in (d := d - 1) hl (by omega)) rfl (by omega) (Nat.le_of_ble_eq_true rfl) rfl dX13_would_31 ?_
    rw [show decide (¬ a3 < (nI 0) ∧ a3 ≤ (nI 9)) = true from h2]
    refine zJ_if_eq 92 dX13_would_34 (by decide) (fun c34 => absurd c34 (by decide)) (fun _ => ?_)
    refine zJ_iload dX13_would_37 rfl ?_
    refine zJ_iconst (v := nI 0) dX13_would_39 rfl ?_
    refine zJ_sipush (v := nI 400) dX13_would_40 rfl ?_
    refine zP_callSi [_, _, _] _ ls_X13_141 (k_in (d := d - 1) hl (by omega)) rfl (by omega) (Nat.le_of_ble_eq_true rfl) rfl dX13_would_43 ?_
    rw [show decide (¬ a4 < (nI 0) ∧ a4 ≤ (nI 400)) = true from h3]
    refine zJ_if_eq 92 dX13_would_46 (by decide) (fun c46 => absurd c46 (by decide)) (fun _ => ?_)
    refine zJ_iload dX13_would_49 rfl ?_
    refine zJ_iconst (v := nI 1) dX13_would_51 rfl ?_
    refine zJ_iconst (v := nI 3) dX13_would_52 rfl ?_
    refine zP_callSi [_, _, _] _ ls_X13_141 (k_in (d := d - 1) hl (by omega)) rfl (by omega) (Nat.le_of_ble_eq_true rfl) rfl dX13_would_53 ?_
    rw [show decide (¬ a5 < (nI 1) ∧ a5 ≤ (nI 3)) = true from h4]
    refine zJ_if_eq 92 dX13_would_56 (by decide) (fun c56 => absurd c56 (by decide)) (fun _ => ?_)
    refine zJ_iload dX13_would_59 rfl ?_
    refine zJ_iconst (v := nI 0) dX13_would_61 rfl ?_
    refine zJ_bipush (v := nI 7) dX13_would_62 rfl ?_
    refine zP_callSi [_, _, _] _ ls_X13_141 (k_in (d := d - 1) hl (by omega)) rfl (by omega) (Nat.le_of_ble_eq_true rfl) rfl dX13_would_64 ?_
    rw [show decide (¬ a6 < (nI 0) ∧ a6 ≤ (nI 7)) = true from h5]
    refine zJ_if_eq 92 dX13_would_67 (by decide) (fun c67 => absurd c67 (by decide)) (fun _ => ?_)
    refine zJ_iload dX13_would_70 rfl ?_
    refine zJ_iconst (v := nI 0) dX13_would_72 rfl ?_
    refine zJ_bipush (v := nI 7) dX13_would_73 rfl ?_
    refine zP_callSi [_, _, _] _ ls_X13_141 (k_in (d := d - 1) hl (by omega)) rfl (by omega) (Nat.le_of_ble_eq_true rfl) rfl dX13_would_75 ?_
    rw [show decide (¬ a7 < (nI 0) ∧ a7 ≤ (nI 7)) = false from c]
    refine zJ_if_eq 92 dX13_would_78 (by decide) (fun _ => ?_) (fun c78 => absurd rfl c78)
    refine zJ_iconst (v := nI 1) dX13_would_92 rfl ?_
    refine zJ_goto 97 dX13_would_93 (by decide) ?_
    refine zJ_iconst (v := nI 1) dX13_would_97 rfl ?_
    refine zJ_iconst (v := nI 1) dX13_would_98 rfl ?_
    refine zP_callVi [_, _, _] _ lv_X13_186 (m_badT (d := d - 1) (w := 1) (r := 1) hl (by omega) hs thr_at (by omega) (by omega)) (zSt_ob hs 74 13 rfl) rfl (by omega) (Nat.le_of_ble_eq_true rfl) rfl dX13_would_99 ?_
    refine zJ_if_eq 107 dX13_would_102 (by decide) (fun c102 => absurd c102 (by decide)) (fun _ => ?_)
    refine zJ_iconst (v := nI 0) dX13_would_105 rfl ?_
    refine zJ_iret rfl dX13_would_106 ?_
    exact ⟨_, _, rfl, rfl, k2, k1, k3⟩
  rcases rT_cons hx with ⟨c, rfl⟩ | ⟨h7, hx⟩
  · obtain ⟨k1, k2, k3⟩ := rI_bad (w := 1) (k := false) hI
    refine zJ_aload_n dX13_would_0 rfl ?_
    refine zJ_iconst (v := nI 0) dX13_would_1 rfl ?_
    refine zP_puti lf_X13_107 (zSt_ob hs 74 13 rfl) rfl dX13_would_2 ?_
    refine zJ_aload_n dX13_would_5 rfl ?_
    refine zJ_iload_n dX13_would_6 rfl ?_
    refine zJ_iconst (v := nI 0) dX13_would_7 rfl ?_
    refine zJ_sipush (v := nI 9999) dX13_would_8 rfl ?_
    refine zP_callSi [_, _, _] _ ls_X13_141 (k_in (d := d - 1) hl (by omega)) rfl (by omega) (Nat.le_of_ble_eq_true rfl) rfl dX13_would_11 ?_
    rw [show decide (¬ a1 < (nI 0) ∧ a1 ≤ (nI 9999)) = true from h0]
    refine zJ_if_eq 92 dX13_would_14 (by decide) (fun c14 => absurd c14 (by decide)) (fun _ => ?_)
    refine zJ_iload_n dX13_would_17 rfl ?_
    refine zJ_iconst (v := nI 0) dX13_would_18 rfl ?_
    refine zJ_bipush (v := nI 6) dX13_would_19 rfl ?_
    refine zP_callSi [_, _, _] _ ls_X13_141 (k_in (d := d - 1) hl (by omega)) rfl (by omega) (Nat.le_of_ble_eq_true rfl) rfl dX13_would_21 ?_
    rw [show decide (¬ a2 < (nI 0) ∧ a2 ≤ (nI 6)) = true from h1]
    refine zJ_if_eq 92 dX13_would_24 (by decide) (fun c24 => absurd c24 (by decide)) (fun _ => ?_)
    refine zJ_iload_n dX13_would_27 rfl ?_
    refine zJ_iconst (v := nI 0) dX13_would_28 rfl ?_
    refine zJ_bipush (v := nI 9) dX13_would_29 rfl ?_
    refine zP_callSi [_, _, _] _ ls_X13_141 (k_in (d := d - 1) hl (by omega)) rfl (by omega) (Nat.le_of_ble_eq_true rfl) rfl dX13_would_31 ?_
    rw [show decide (¬ a3 < (nI 0) ∧ a3 ≤ (nI 9)) = true from h2]
    refine zJ_if_eq 92 dX13_would_34 (by decide) (fun c34 => absurd c34 (by decide)) (fun _ => ?_)
    refine zJ_iload dX13_would_37 rfl ?_
    refine zJ_iconst (v := nI 0) dX13_would_39 rfl ?_
    refine zJ_sipush (v := nI 400) dX13_would_40 rfl ?_
    refine zP_callSi [_, _, _] _ ls_X13_141 (k_in (d := d - 1) hl (by omega)) rfl (by omega) (Nat.le_of_ble_eq_true rfl) rfl dX13_would_43 ?_
    rw [show decide (¬ a4 < (nI 0) ∧ a4 ≤ (nI 400)) = true from h3]
    refine zJ_if_eq 92 dX13_would_46 (by decide) (fun c46 => absurd c46 (by decide)) (fun _ => ?_)
    refine zJ_iload dX13_would_49 rfl ?_
    refine zJ_iconst (v := nI 1) dX13_would_51 rfl ?_
    refine zJ_iconst (v := nI 3) dX13_would_52 rfl ?_
    refine zP_callSi [_, _, _] _ ls_X13_141 (k_in (d := d - 1) hl (by omega)) rfl (by omega) (Nat.le_of_ble_eq_true rfl) rfl dX13_would_53 ?_
    rw [show decide (¬ a5 < (nI 1) ∧ a5 ≤ (nI 3)) = true from h4]
    refine zJ_if_eq 92 dX13_would_56 (by decide) (fun c56 => absurd c56 (by decide)) (fun _ => ?_)
    refine zJ_iload dX13_would_59 rfl ?_
    refine zJ_iconst (v := nI 0) dX13_would_61 rfl ?_
    refine zJ_bipush (v := nI 7) dX13_would_62 rfl ?_
    refine zP_callSi [_, _, _] _ ls_X13_141 (k_in (d := d - 1) hl (by omega)) rfl (by omega) (Nat.le_of_ble_eq_true rfl) rfl dX13_would_64 ?_
    rw [show decide (¬ a6 < (nI 0) ∧ a6 ≤ (nI 7)) = true from h5]
    refine zJ_if_eq 92 dX13_would_67 (by decide) (fun c67 => absurd c67 (by decide)) (fun _ => ?_)
    refine zJ_iload dX13_would_70 rfl ?_
    refine zJ_iconst (v := nI 0) dX13_would_72 rfl ?_
    refine zJ_bipush (v := nI 7) dX13_would_73 rfl ?_
    refine zP_callSi [_, _, _] _ ls_X13_141 (k_in (d := d - 1) hl (by omega)) rfl (by omega) (Nat.le_of_ble_eq_true rfl) rfl dX13_would_75 ?_
    rw [show decide (¬ a7 < (nI 0) ∧ a7 ≤ (nI 7)) = true from h6]
    refine zJ_if_eq 92 dX13_would_78 (by decide) (fun c78 => absurd c78 (by decide)) (fun _ => ?_)
    refine zJ_iload dX13_would_81 rfl ?_
    refine zJ_iconst (v := nI 0) dX13_would_83 rfl ?_
    refine zJ_bipush (v := nI 6) dX13_would_84 rfl ?_
    refine zP_callSi [_, _, _] _ ls_X13_141 (k_in (d := d - 1) hl (by omega)) rfl (by omega) (Nat.le_of_ble_eq_true rfl) rfl dX13_would_86 ?_
    rw [show decide (¬ a8 < (nI 0) ∧ a8 ≤ (nI 6)) = false from c]
    refine zJ_if_ne 96 dX13_would_89 (by decide) (fun c89 => absurd rfl c89) (fun _ => ?_)
    refine zJ_iconst (v := nI 1) dX13_would_92 rfl ?_
    refine zJ_goto 97 dX13_would_93 (by decide) ?_
    refine zJ_iconst (v := nI 1) dX13_would_97 rfl ?_
    refine zJ_iconst (v := nI 1) dX13_would_98 rfl ?_
    refine zP_callVi [_, _, _] _ lv_X13_186 (m_badT (d := d - 1) (w := 1) (r := 1) hl (by omega) hs thr_at (by omega) (by omega)) (zSt_ob hs 74 13 rfl) rfl (by omega) (Nat.le_of_ble_eq_true rfl) rfl dX13_would_99 ?_
    refine zJ_if_eq 107 dX13_would_102 (by decide) (fun c102 => absurd c102 (by decide)) (fun _ => ?_)
    refine zJ_iconst (v := nI 0) dX13_would_105 rfl ?_
    refine zJ_iret rfl dX13_would_106 ?_
    exact ⟨_, _, rfl, rfl, k2, k1, k3⟩
  cases hx
def q_jam (S : sT) (a1 : Int32) : List (Bool × Bool) := [(qRow S.2.1 a1, true)]
theorem m_jamN (hl : l.stackTraces = false) (hd : 12 ≤ d) (hs : zSt g) {S : sT} (hI : rI I S) {a1 : Int32} {k : Bool} (hx : rT (q_jam S a1) = some k) : zEi l Xi mX13_jam d [.ref 74, .int a1] I g (fun v J => J 74 0 = nI 1 ∧ rI J (rfU S k) ∧ rQ2 I J) := by
  refine zC_of hl rfl rfl rfl (Nat.le_of_ble_eq_true rfl) (zav_r (zSt_ob hs 74 13 rfl).1 (zav_i zav_0)) ?_
  have hB0 : rB (zup I 74 0 (nI 0)) S.2.1 := (rI_rQ hI rQ_thr).2.2.1
  unfold q_jam at hx
  rcases rT_cons hx with ⟨c, rfl⟩ | ⟨h0, hx⟩
  · obtain ⟨k1, k2, k3⟩ := rI_bad (w := 1) (k := true) hI
    refine zJ_aload_n dX13_jam_0 rfl ?_
    refine zJ_iconst (v := nI 0) dX13_jam_1 rfl ?_
    refine zP_puti lf_X13_107 (zSt_ob hs 74 13 rfl) rfl dX13_jam_2 ?_
    refine zJ_aload_n dX13_jam_5 rfl ?_
    refine zJ_iload_n dX13_jam_6 rfl ?_
    refine zJ_iconst (v := nI 0) dX13_jam_7 rfl ?_
    refine zJ_aload_n dX13_jam_8 rfl ?_
    refine zP_getr lf_X13_23 (zSt_ob hs 74 13 rfl) rfl (zSt_rf hs 74 12 78 rfl) dX13_jam_9 ?_
    refine zJ_iconst (v := nI 1) dX13_jam_12 rfl ?_
    refine zP_iald (zSt_ar hs 78 4 rfl) (by first | assumption | with_reducible exact vp_in_nI (by omega) (by omega) | (simp (disch := omega) only [nI_add, pk_mul, pk_sub, pk_div, pk_rem, nI_clamp]; with_reducible exact vp_in_nI (by omega) (by omega))) dX13_jam_13 ?_
    rw [nI_clamp (by omega), hB0.2.1.2.1]
    refine zJ_iconst (v := nI 1) dX13_jam_14 rfl ?_
    refine zJ_isub dX13_jam_15 ?_
    refine zP_callSi [_, _, _] _ ls_X13_141 (k_in (d := d - 1) hl (by omega)) rfl (by omega) (Nat.le_of_ble_eq_true rfl) rfl dX13_jam_16 ?_
    rw [qRow_eq hB0.1, c]
    refine zJ_if_ne 26 dX13_jam_19 (by decide) (fun c19 => absurd rfl c19) (fun _ => ?_)
    refine zJ_iconst (v := nI 1) dX13_jam_22 rfl ?_
    refine zJ_goto 27 dX13_jam_23 (by decide) ?_
    refine zJ_iconst (v := nI 1) dX13_jam_27 rfl ?_
    refine zJ_iconst (v := nI 0) dX13_jam_28 rfl ?_
    refine zP_callVi [_, _, _] _ lv_X13_186 (m_badT (d := d - 1) (w := 1) (r := 0) hl (by omega) hs thr_at (by omega) (by omega)) (zSt_ob hs 74 13 rfl) rfl (by omega) (Nat.le_of_ble_eq_true rfl) rfl dX13_jam_29 ?_
    refine zJ_if_eq 37 dX13_jam_32 (by decide) (fun c32 => absurd c32 (by decide)) (fun _ => ?_)
    refine zJ_iconst (v := nI 0) dX13_jam_35 rfl ?_
    refine zJ_iret rfl dX13_jam_36 ?_
    exact ⟨_, _, rfl, rfl, k2, k1, k3⟩
  cases hx
def q_ahead (S : sT) (a1 a2 : Int32) : List (Bool × Bool) := [(nRange a1 (nI 0) (nI 40), false), (nRange a2 (nI 0) (nI 3), false)]
theorem m_aheadN (hl : l.stackTraces = false) (hd : 12 ≤ d) (hs : zSt g) {S : sT} (hI : rI I S) {a1 a2 : Int32} {k : Bool} (hx : rT (q_ahead S a1 a2) = some k) : zEi l Xi mX13_ahead d [.ref 74, .int a1, .int a2] I g (fun v J => J 74 0 = nI 1 ∧ rI J (rfU S k) ∧ rQ2 I J) := by
  refine zC_of hl rfl rfl rfl (Nat.le_of_ble_eq_true rfl) (zav_r (zSt_ob hs 74 13 rfl).1 (zav_i (zav_i zav_0))) ?_
  have hB0 : rB (zup I 74 0 (nI 0)) S.2.1 := (rI_rQ hI rQ_thr).2.2.1
  unfold q_ahead at hx
  rcases rT_cons hx with ⟨c, rfl⟩ | ⟨h0, hx⟩
  · obtain ⟨k1, k2, k3⟩ := rI_bad (w := 1) (k := false) hI
    refine zJ_aload_n dX13_ahead_0 rfl ?_
    refine zJ_iconst (v := nI 0) dX13_ahead_1 rfl ?_
    refine zP_puti lf_X13_107 (zSt_ob hs 74 13 rfl) rfl dX13_ahead_2 ?_
    refine zJ_aload_n dX13_ahead_5 rfl ?_
    refine zJ_iload_n dX13_ahead_6 rfl ?_
    refine zJ_iconst (v := nI 0) dX13_ahead_7 rfl ?_
    refine zJ_bipush (v := nI 40) dX13_ahead_8 rfl ?_
    refine zP_callSi [_, _, _] _ ls_X13_141 (k_in (d := d - 1) hl (by omega)) rfl (by omega) (Nat.le_of_ble_eq_true rfl) rfl dX13_ahead_10 ?_
    rw [show decide (¬ a1 < (nI 0) ∧ a1 ≤ (nI 40)) = false from c]
    refine zJ_if_eq 25 dX13_ahead_13 (by decide) (fun _ => ?_) (fun c13 => absurd rfl c13)
    refine zJ_iconst (v := nI 1) dX13_ahead_25 rfl ?_
    refine zJ_goto 30 dX13_ahead_26 (by decide) ?_
    refine zJ_iconst (v := nI 1) dX13_ahead_30 rfl ?_
    refine zJ_iconst (v := nI 1) dX13_ahead_31 rfl ?_
    refine zP_callVi [_, _, _] _ lv_X13_186 (m_badT (d := d - 1) (w := 1) (r := 1) hl (by omega) hs thr_at (by omega) (by omega)) (zSt_ob hs 74 13 rfl) rfl (by omega) (Nat.le_of_ble_eq_true rfl) rfl dX13_ahead_32 ?_
    refine zJ_if_eq 40 dX13_ahead_35 (by decide) (fun c35 => absurd c35 (by decide)) (fun _ => ?_)
    refine zJ_iconst (v := nI 0) dX13_ahead_38 rfl ?_
    refine zJ_iret rfl dX13_ahead_39 ?_
    exact ⟨_, _, rfl, rfl, k2, k1, k3⟩
  rcases rT_cons hx with ⟨c, rfl⟩ | ⟨h1, hx⟩
  · obtain ⟨k1, k2, k3⟩ := rI_bad (w := 1) (k := false) hI
    refine zJ_aload_n dX13_ahead_0 rfl ?_
    refine zJ_iconst (v := nI 0) dX13_ahead_1 rfl ?_
    refine zP_puti lf_X13_107 (zSt_ob hs 74 13 rfl) rfl dX13_ahead_2 ?_
    refine zJ_aload_n dX13_ahead_5 rfl ?_
    refine zJ_iload_n dX13_ahead_6 rfl ?_
    refine zJ_iconst (v := nI 0) dX13_ahead_7 rfl ?_
    refine zJ_bipush (v := nI 40) dX13_ahead_8 rfl ?_
    refine zP_callSi [_, _, _] _ ls_X13_141 (k_in (d := d - 1) hl (by omega)) rfl (by omega) (Nat.le_of_ble_eq_true rfl) rfl dX13_ahead_10 ?_
    rw [show decide (¬ a1 < (nI 0) ∧ a1 ≤ (nI 40)) = true from h0]
    refine zJ_if_eq 25 dX13_ahead_13 (by decide) (fun c13 => absurd c13 (by decide)) (fun _ => ?_)
    refine zJ_iload_n dX13_ahead_16 rfl ?_
    refine zJ_iconst (v := nI 0) dX13_ahead_17 rfl ?_
    refine zJ_iconst (v := nI 3) dX13_ahead_18 rfl ?_
    refine zP_callSi [_, _, _] _ ls_X13_141 (k_in (d := d - 1) hl (by omega)) rfl (by omega) (Nat.le_of_ble_eq_true rfl) rfl dX13_ahead_19 ?_
    rw [show decide (¬ a2 < (nI 0) ∧ a2 ≤ (nI 3)) = false from c]
    refine zJ_if_ne 29 dX13_ahead_22 (by decide) (fun c22 => absurd rfl c22) (fun _ => ?_)
    refine zJ_iconst (v := nI 1) dX13_ahead_25 rfl ?_
    refine zJ_goto 30 dX13_ahead_26 (by decide) ?_
    refine zJ_iconst (v := nI 1) dX13_ahead_30 rfl ?_
    refine zJ_iconst (v := nI 1) dX13_ahead_31 rfl ?_
    refine zP_callVi [_, _, _] _ lv_X13_186 (m_badT (d := d - 1) (w := 1) (r := 1) hl (by omega) hs thr_at (by omega) (by omega)) (zSt_ob hs 74 13 rfl) rfl (by omega) (Nat.le_of_ble_eq_true rfl) rfl dX13_ahead_32 ?_
    refine zJ_if_eq 40 dX13_ahead_35 (by decide) (fun c35 => absurd c35 (by decide)) (fun _ => ?_)
    refine zJ_iconst (v := nI 0) dX13_ahead_38 rfl ?_
    refine zJ_iret rfl dX13_ahead_39 ?_
    exact ⟨_, _, rfl, rfl, k2, k1, k3⟩
  cases hx
def q_fewest (S : sT) (a1 : Int32) : List (Bool × Bool) := [(qNet S.2.1 a1, true)]
theorem m_fewestN (hl : l.stackTraces = false) (hd : 12 ≤ d) (hs : zSt g) {S : sT} (hI : rI I S) {a1 : Int32} {k : Bool} (hx : rT (q_fewest S a1) = some k) : zEi l Xi mX13_fewest d [.ref 74, .int a1] I g (fun v J => J 74 0 = nI 1 ∧ rI J (rfU S k) ∧ rQ2 I J) := by
  refine zC_of hl rfl rfl rfl (Nat.le_of_ble_eq_true rfl) (zav_r (zSt_ob hs 74 13 rfl).1 (zav_i zav_0)) ?_
  have hB0 : rB (zup I 74 0 (nI 0)) S.2.1 := (rI_rQ hI rQ_thr).2.2.1
  unfold q_fewest at hx
  rcases rT_cons hx with ⟨c, rfl⟩ | ⟨h0, hx⟩
  · obtain ⟨k1, k2, k3⟩ := rI_bad (w := 1) (k := true) hI
    refine zJ_aload_n dX13_fewest_0 rfl ?_
    refine zJ_iconst (v := nI 0) dX13_fewest_1 rfl ?_
    refine zP_puti lf_X13_107 (zSt_ob hs 74 13 rfl) rfl dX13_fewest_2 ?_
    refine zJ_aload_n dX13_fewest_5 rfl ?_
    refine zJ_aload_n dX13_fewest_6 rfl ?_
    refine zJ_iload_n dX13_fewest_7 rfl ?_
    refine zP_callVi [_] _ lv_X13_412 (m_isNet (d := d - 1) hl (by omega) hs hB0) (zSt_ob hs 74 13 rfl) rfl (by omega) (Nat.le_of_ble_eq_true rfl) rfl dX13_fewest_8 ?_
    rw [c]
    refine zJ_if_ne 18 dX13_fewest_11 (by decide) (fun c11 => absurd rfl c11) (fun _ => ?_)
    refine zJ_iconst (v := nI 1) dX13_fewest_14 rfl ?_
    refine zJ_goto 19 dX13_fewest_15 (by decide) ?_
    refine zJ_iconst (v := nI 1) dX13_fewest_19 rfl ?_
    refine zJ_iconst (v := nI 0) dX13_fewest_20 rfl ?_
    refine zP_callVi [_, _, _] _ lv_X13_186 (m_badT (d := d - 1) (w := 1) (r := 0) hl (by omega) hs thr_at (by omega) (by omega)) (zSt_ob hs 74 13 rfl) rfl (by omega) (Nat.le_of_ble_eq_true rfl) rfl dX13_fewest_21 ?_
    refine zJ_if_eq 29 dX13_fewest_24 (by decide) (fun c24 => absurd c24 (by decide)) (fun _ => ?_)
    refine zJ_iconst (v := nI 0) dX13_fewest_27 rfl ?_
    refine zJ_iret rfl dX13_fewest_28 ?_
    exact ⟨_, _, rfl, rfl, k2, k1, k3⟩
  cases hx
def q_tree (S : sT) (a1 a2 : Int32) : List (Bool × Bool) := [(qNet S.2.1 a1, true), (qRow S.2.1 a2, true)]
theorem m_treeN (hl : l.stackTraces = false) (hd : 12 ≤ d) (hs : zSt g) {S : sT} (hI : rI I S) {a1 a2 : Int32} {k : Bool} (hx : rT (q_tree S a1 a2) = some k) : zEi l Xi mX13_tree d [.ref 74, .int a1, .int a2] I g (fun v J => J 74 0 = nI 1 ∧ rI J (rfU S k) ∧ rQ2 I J) := by
  refine zC_of hl rfl rfl rfl (Nat.le_of_ble_eq_true rfl) (zav_r (zSt_ob hs 74 13 rfl).1 (zav_i (zav_i zav_0))) ?_
  have hB0 : rB (zup I 74 0 (nI 0)) S.2.1 := (rI_rQ hI rQ_thr).2.2.1
  unfold q_tree at hx
  rcases rT_cons hx with ⟨c, rfl⟩ | ⟨h0, hx⟩
  · obtain ⟨k1, k2, k3⟩ := rI_bad (w := 1) (k := true) hI
    refine zJ_aload_n dX13_tree_0 rfl ?_
    refine zJ_iconst (v := nI 0) dX13_tree_1 rfl ?_
    refine zP_puti lf_X13_107 (zSt_ob hs 74 13 rfl) rfl dX13_tree_2 ?_
    refine zJ_aload_n dX13_tree_5 rfl ?_
    refine zJ_aload_n dX13_tree_6 rfl ?_
    refine zJ_iload_n dX13_tree_7 rfl ?_
    refine zP_callVi [_] _ lv_X13_412 (m_isNet (d := d - 1) hl (by omega) hs hB0) (zSt_ob hs 74 13 rfl) rfl (by omega) (Nat.le_of_ble_eq_true rfl) rfl dX13_tree_8 ?_
    rw [c]
    refine zJ_if_eq 30 dX13_tree_11 (by decide) (fun _ => ?_) (fun c11 => absurd rfl c11)
    refine zJ_iconst (v := nI 1) dX13_tree_30 rfl ?_
    refine zJ_goto 35 dX13_tree_31 (by decide) ?_
    refine zJ_iconst (v := nI 1) dX13_tree_35 rfl ?_
    refine zJ_iconst (v := nI 0) dX13_tree_36 rfl ?_
    refine zP_callVi [_, _, _] _ lv_X13_186 (m_badT (d := d - 1) (w := 1) (r := 0) hl (by omega) hs thr_at (by omega) (by omega)) (zSt_ob hs 74 13 rfl) rfl (by omega) (Nat.le_of_ble_eq_true rfl) rfl dX13_tree_37 ?_
    refine zJ_if_eq 45 dX13_tree_40 (by decide) (fun c40 => absurd c40 (by decide)) (fun _ => ?_)
    refine zJ_iconst (v := nI 0) dX13_tree_43 rfl ?_
    refine zJ_iret rfl dX13_tree_44 ?_
    exact ⟨_, _, rfl, rfl, k2, k1, k3⟩
  rcases rT_cons hx with ⟨c, rfl⟩ | ⟨h1, hx⟩
  · obtain ⟨k1, k2, k3⟩ := rI_bad (w := 1) (k := true) hI
    refine zJ_aload_n dX13_tree_0 rfl ?_
    refine zJ_iconst (v := nI 0) dX13_tree_1 rfl ?_
    refine zP_puti lf_X13_107 (zSt_ob hs 74 13 rfl) rfl dX13_tree_2 ?_
    refine zJ_aload_n dX13_tree_5 rfl ?_
    refine zJ_aload_n dX13_tree_6 rfl ?_
    refine zJ_iload_n dX13_tree_7 rfl ?_
    refine zP_callVi [_] _ lv_X13_412 (m_isNet (d := d - 1) hl (by omega) hs hB0) (zSt_ob hs 74 13 rfl) rfl (by omega) (Nat.le_of_ble_eq_true rfl) rfl dX13_tree_8 ?_
    rw [h0]
    refine zJ_if_eq 30 dX13_tree_11 (by decide) (fun c11 => absurd c11 (by decide)) (fun _ => ?_)
    refine zJ_iload_n dX13_tree_14 rfl ?_
    refine zJ_iconst (v := nI 0) dX13_tree_15 rfl ?_
    refine zJ_aload_n dX13_tree_16 rfl ?_
    refine zP_getr lf_X13_23 (zSt_ob hs 74 13 rfl) rfl (zSt_rf hs 74 12 78 rfl) dX13_tree_17 ?_
    refine zJ_iconst (v := nI 1) dX13_tree_20 rfl ?_
    refine zP_iald (zSt_ar hs 78 4 rfl) (by first | assumption | with_reducible exact vp_in_nI (by omega) (by omega) | (simp (disch := omega) only [nI_add, pk_mul, pk_sub, pk_div, pk_rem, nI_clamp]; with_reducible exact vp_in_nI (by omega) (by omega))) dX13_tree_21 ?_
    rw [nI_clamp (by omega), hB0.2.1.2.1]
    refine zJ_iconst (v := nI 1) dX13_tree_22 rfl ?_
    refine zJ_isub dX13_tree_23 ?_
    refine zP_callSi [_, _, _] _ ls_X13_141 (k_in (d := d - 1) hl (by omega)) rfl (by omega) (Nat.le_of_ble_eq_true rfl) rfl dX13_tree_24 ?_
    rw [qRow_eq hB0.1, c]
    refine zJ_if_ne 34 dX13_tree_27 (by decide) (fun c27 => absurd rfl c27) (fun _ => ?_)
    refine zJ_iconst (v := nI 1) dX13_tree_30 rfl ?_
    refine zJ_goto 35 dX13_tree_31 (by decide) ?_
    refine zJ_iconst (v := nI 1) dX13_tree_35 rfl ?_
    refine zJ_iconst (v := nI 0) dX13_tree_36 rfl ?_
    refine zP_callVi [_, _, _] _ lv_X13_186 (m_badT (d := d - 1) (w := 1) (r := 0) hl (by omega) hs thr_at (by omega) (by omega)) (zSt_ob hs 74 13 rfl) rfl (by omega) (Nat.le_of_ble_eq_true rfl) rfl dX13_tree_37 ?_
    refine zJ_if_eq 45 dX13_tree_40 (by decide) (fun c40 => absurd c40 (by decide)) (fun _ => ?_)
    refine zJ_iconst (v := nI 0) dX13_tree_43 rfl ?_
    refine zJ_iret rfl dX13_tree_44 ?_
    exact ⟨_, _, rfl, rfl, k2, k1, k3⟩
  cases hx
def q_meet (S : sT) (a1 a2 : Int32) : List (Bool × Bool) := [(qNet S.2.1 a1, true), (qNet S.2.1 a2, true)]
theorem m_meetN (hl : l.stackTraces = false) (hd : 12 ≤ d) (hs : zSt g) {S : sT} (hI : rI I S) {a1 a2 : Int32} {k : Bool} (hx : rT (q_meet S a1 a2) = some k) : zEi l Xi mX13_meet d [.ref 74, .int a1, .int a2] I g (fun v J => J 74 0 = nI 1 ∧ rI J (rfU S k) ∧ rQ2 I J) := by
  refine zC_of hl rfl rfl rfl (Nat.le_of_ble_eq_true rfl) (zav_r (zSt_ob hs 74 13 rfl).1 (zav_i (zav_i zav_0))) ?_
  have hB0 : rB (zup I 74 0 (nI 0)) S.2.1 := (rI_rQ hI rQ_thr).2.2.1
  unfold q_meet at hx
  rcases rT_cons hx with ⟨c, rfl⟩ | ⟨h0, hx⟩
  · obtain ⟨k1, k2, k3⟩ := rI_bad (w := 1) (k := true) hI
    refine zJ_aload_n dX13_meet_0 rfl ?_
    refine zJ_iconst (v := nI 0) dX13_meet_1 rfl ?_
    refine zP_puti lf_X13_107 (zSt_ob hs 74 13 rfl) rfl dX13_meet_2 ?_
    refine zJ_aload_n dX13_meet_5 rfl ?_
    refine zJ_aload_n dX13_meet_6 rfl ?_
    refine zJ_iload_n dX13_meet_7 rfl ?_
    refine zP_callVi [_] _ lv_X13_412 (m_isNet (d := d - 1) hl (by omega) hs hB0) (zSt_ob hs 74 13 rfl) rfl (by omega) (Nat.le_of_ble_eq_true rfl) rfl dX13_meet_8 ?_
    rw [c]
    refine zJ_if_eq 22 dX13_meet_11 (by decide) (fun _ => ?_) (fun c11 => absurd rfl c11)
    refine zJ_iconst (v := nI 1) dX13_meet_22 rfl ?_
    refine zJ_goto 27 dX13_meet_23 (by decide) ?_
    refine zJ_iconst (v := nI 1) dX13_meet_27 rfl ?_
    refine zJ_iconst (v := nI 0) dX13_meet_28 rfl ?_
    refine zP_callVi [_, _, _] _ lv_X13_186 (m_badT (d := d - 1) (w := 1) (r := 0) hl (by omega) hs thr_at (by omega) (by omega)) (zSt_ob hs 74 13 rfl) rfl (by omega) (Nat.le_of_ble_eq_true rfl) rfl dX13_meet_29 ?_
    refine zJ_if_eq 37 dX13_meet_32 (by decide) (fun c32 => absurd c32 (by decide)) (fun _ => ?_)
    refine zJ_iconst (v := nI 0) dX13_meet_35 rfl ?_
    refine zJ_iret rfl dX13_meet_36 ?_
    exact ⟨_, _, rfl, rfl, k2, k1, k3⟩
  rcases rT_cons hx with ⟨c, rfl⟩ | ⟨h1, hx⟩
  · obtain ⟨k1, k2, k3⟩ := rI_bad (w := 1) (k := true) hI
    refine zJ_aload_n dX13_meet_0 rfl ?_
    refine zJ_iconst (v := nI 0) dX13_meet_1 rfl ?_
    refine zP_puti lf_X13_107 (zSt_ob hs 74 13 rfl) rfl dX13_meet_2 ?_
    refine zJ_aload_n dX13_meet_5 rfl ?_
    refine zJ_aload_n dX13_meet_6 rfl ?_
    refine zJ_iload_n dX13_meet_7 rfl ?_
    refine zP_callVi [_] _ lv_X13_412 (m_isNet (d := d - 1) hl (by omega) hs hB0) (zSt_ob hs 74 13 rfl) rfl (by omega) (Nat.le_of_ble_eq_true rfl) rfl dX13_meet_8 ?_
    rw [h0]
    refine zJ_if_eq 22 dX13_meet_11 (by decide) (fun c11 => absurd c11 (by decide)) (fun _ => ?_)
    refine zJ_aload_n dX13_meet_14 rfl ?_
    refine zJ_iload_n dX13_meet_15 rfl ?_
    refine zP_callVi [_] _ lv_X13_412 (m_isNet (d := d - 1) hl (by omega) hs hB0) (zSt_ob hs 74 13 rfl) rfl (by omega) (Nat.le_of_ble_eq_true rfl) rfl dX13_meet_16 ?_
    rw [c]
    refine zJ_if_ne 26 dX13_meet_19 (by decide) (fun c19 => absurd rfl c19) (fun _ => ?_)
    refine zJ_iconst (v := nI 1) dX13_meet_22 rfl ?_
    refine zJ_goto 27 dX13_meet_23 (by decide) ?_
    refine zJ_iconst (v := nI 1) dX13_meet_27 rfl ?_
    refine zJ_iconst (v := nI 0) dX13_meet_28 rfl ?_
    refine zP_callVi [_, _, _] _ lv_X13_186 (m_badT (d := d - 1) (w := 1) (r := 0) hl (by omega) hs thr_at (by omega) (by omega)) (zSt_ob hs 74 13 rfl) rfl (by omega) (Nat.le_of_ble_eq_true rfl) rfl dX13_meet_29 ?_
    refine zJ_if_eq 37 dX13_meet_32 (by decide) (fun c32 => absurd c32 (by decide)) (fun _ => ?_)
    refine zJ_iconst (v := nI 0) dX13_meet_35 rfl ?_
    refine zJ_iret rfl dX13_meet_36 ?_
    exact ⟨_, _, rfl, rfl, k2, k1, k3⟩
  cases hx
def q_dear (S : sT) (a1 : Int32) : List (Bool × Bool) := [(qNet S.2.1 a1, true)]
theorem m_dearN (hl : l.stackTraces = false) (hd : 12 ≤ d) (hs : zSt g) {S : sT} (hI : rI I S) {a1 : Int32} {k : Bool} (hx : rT (q_dear S a1) = some k) : zEi l Xi mX13_dear d [.ref 74, .int a1] I g (fun v J => J 74 0 = nI 1 ∧ rI J (rfU S k) ∧ rQ2 I J) := by
  refine zC_of hl rfl rfl rfl (Nat.le_of_ble_eq_true rfl) (zav_r (zSt_ob hs 74 13 rfl).1 (zav_i zav_0)) ?_
  have hB0 : rB (zup I 74 0 (nI 0)) S.2.1 := (rI_rQ hI rQ_thr).2.2.1
  unfold q_dear at hx
  rcases rT_cons hx with ⟨c, rfl⟩ | ⟨h0, hx⟩
  · obtain ⟨k1, k2, k3⟩ := rI_bad (w := 1) (k := true) hI
    refine zJ_aload_n dX13_dear_0 rfl ?_
    refine zJ_iconst (v := nI 0) dX13_dear_1 rfl ?_
    refine zP_puti lf_X13_107 (zSt_ob hs 74 13 rfl) rfl dX13_dear_2 ?_
    refine zJ_aload_n dX13_dear_5 rfl ?_
    refine zJ_aload_n dX13_dear_6 rfl ?_
    refine zJ_iload_n dX13_dear_7 rfl ?_
    refine zP_callVi [_] _ lv_X13_412 (m_isNet (d := d - 1) hl (by omega) hs hB0) (zSt_ob hs 74 13 rfl) rfl (by omega) (Nat.le_of_ble_eq_true rfl) rfl dX13_dear_8 ?_
    rw [c]
    refine zJ_if_ne 18 dX13_dear_11 (by decide) (fun c11 => absurd rfl c11) (fun _ => ?_)
    refine zJ_iconst (v := nI 1) dX13_dear_14 rfl ?_
    refine zJ_goto 19 dX13_dear_15 (by decide) ?_
    refine zJ_iconst (v := nI 1) dX13_dear_19 rfl ?_
    refine zJ_iconst (v := nI 0) dX13_dear_20 rfl ?_
    refine zP_callVi [_, _, _] _ lv_X13_186 (m_badT (d := d - 1) (w := 1) (r := 0) hl (by omega) hs thr_at (by omega) (by omega)) (zSt_ob hs 74 13 rfl) rfl (by omega) (Nat.le_of_ble_eq_true rfl) rfl dX13_dear_21 ?_
    refine zJ_if_eq 29 dX13_dear_24 (by decide) (fun c24 => absurd c24 (by decide)) (fun _ => ?_)
    refine zJ_iconst (v := nI 0) dX13_dear_27 rfl ?_
    refine zJ_iret rfl dX13_dear_28 ?_
    exact ⟨_, _, rfl, rfl, k2, k1, k3⟩
  cases hx
def q_shed (S : sT) (a1 : Int32) : List (Bool × Bool) := [(qNet S.2.1 a1, true)]
theorem m_shedN (hl : l.stackTraces = false) (hd : 12 ≤ d) (hs : zSt g) {S : sT} (hI : rI I S) {a1 : Int32} {k : Bool} (hx : rT (q_shed S a1) = some k) : zEi l Xi mX13_shed d [.ref 74, .int a1] I g (fun v J => J 74 0 = nI 1 ∧ rI J (rfU S k) ∧ rQ2 I J) := by
  refine zC_of hl rfl rfl rfl (Nat.le_of_ble_eq_true rfl) (zav_r (zSt_ob hs 74 13 rfl).1 (zav_i zav_0)) ?_
  have hB0 : rB (zup I 74 0 (nI 0)) S.2.1 := (rI_rQ hI rQ_thr).2.2.1
  unfold q_shed at hx
  rcases rT_cons hx with ⟨c, rfl⟩ | ⟨h0, hx⟩
  · obtain ⟨k1, k2, k3⟩ := rI_bad (w := 1) (k := true) hI
    refine zJ_aload_n dX13_shed_0 rfl ?_
    refine zJ_iconst (v := nI 0) dX13_shed_1 rfl ?_
    refine zP_puti lf_X13_107 (zSt_ob hs 74 13 rfl) rfl dX13_shed_2 ?_
    refine zJ_aload_n dX13_shed_5 rfl ?_
    refine zJ_aload_n dX13_shed_6 rfl ?_
    refine zJ_iload_n dX13_shed_7 rfl ?_
    refine zP_callVi [_] _ lv_X13_412 (m_isNet (d := d - 1) hl (by omega) hs hB0) (zSt_ob hs 74 13 rfl) rfl (by omega) (Nat.le_of_ble_eq_true rfl) rfl dX13_shed_8 ?_
    rw [c]
    refine zJ_if_ne 18 dX13_shed_11 (by decide) (fun c11 => absurd rfl c11) (fun _ => ?_)
    refine zJ_iconst (v := nI 1) dX13_shed_14 rfl ?_
    refine zJ_goto 19 dX13_shed_15 (by decide) ?_
    refine zJ_iconst (v := nI 1) dX13_shed_19 rfl ?_
    refine zJ_iconst (v := nI 0) dX13_shed_20 rfl ?_
    refine zP_callVi [_, _, _] _ lv_X13_186 (m_badT (d := d - 1) (w := 1) (r := 0) hl (by omega) hs thr_at (by omega) (by omega)) (zSt_ob hs 74 13 rfl) rfl (by omega) (Nat.le_of_ble_eq_true rfl) rfl dX13_shed_21 ?_
    refine zJ_if_eq 29 dX13_shed_24 (by decide) (fun c24 => absurd c24 (by decide)) (fun _ => ?_)
    refine zJ_iconst (v := nI 0) dX13_shed_27 rfl ?_
    refine zJ_iret rfl dX13_shed_28 ?_
    exact ⟨_, _, rfl, rfl, k2, k1, k3⟩
  cases hx
def q_fits (S : sT) (a1 : Int32) : List (Bool × Bool) := [(nRange a1 (nI 0) (nI 1), false)]
theorem m_fitsN (hl : l.stackTraces = false) (hd : 12 ≤ d) (hs : zSt g) {S : sT} (hI : rI I S) {a1 : Int32} {k : Bool} (hx : rT (q_fits S a1) = some k) : zEi l Xi mX13_fits d [.ref 74, .int a1] I g (fun v J => J 74 0 = nI 1 ∧ rI J (rfU S k) ∧ rQ2 I J) := by
  refine zC_of hl rfl rfl rfl (Nat.le_of_ble_eq_true rfl) (zav_r (zSt_ob hs 74 13 rfl).1 (zav_i zav_0)) ?_
  have hB0 : rB (zup I 74 0 (nI 0)) S.2.1 := (rI_rQ hI rQ_thr).2.2.1
  unfold q_fits at hx
  rcases rT_cons hx with ⟨c, rfl⟩ | ⟨h0, hx⟩
  · obtain ⟨k1, k2, k3⟩ := rI_bad (w := 1) (k := false) hI
    refine zJ_aload_n dX13_fits_0 rfl ?_
    refine zJ_iconst (v := nI 0) dX13_fits_1 rfl ?_
    refine zP_puti lf_X13_107 (zSt_ob hs 74 13 rfl) rfl dX13_fits_2 ?_
    refine zJ_aload_n dX13_fits_5 rfl ?_
    refine zJ_iload_n dX13_fits_6 rfl ?_
    refine zJ_iconst (v := nI 0) dX13_fits_7 rfl ?_
    refine zJ_iconst (v := nI 1) dX13_fits_8 rfl ?_
    refine zP_callSi [_, _, _] _ ls_X13_141 (k_in (d := d - 1) hl (by omega)) rfl (by omega) (Nat.le_of_ble_eq_true rfl) rfl dX13_fits_9 ?_
    rw [show decide (¬ a1 < (nI 0) ∧ a1 ≤ (nI 1)) = false from c]
    refine zJ_if_ne 19 dX13_fits_12 (by decide) (fun c12 => absurd rfl c12) (fun _ => ?_)
    refine zJ_iconst (v := nI 1) dX13_fits_15 rfl ?_
    refine zJ_goto 20 dX13_fits_16 (by decide) ?_
    refine zJ_iconst (v := nI 1) dX13_fits_20 rfl ?_
    refine zJ_iconst (v := nI 1) dX13_fits_21 rfl ?_
    refine zP_callVi [_, _, _] _ lv_X13_186 (m_badT (d := d - 1) (w := 1) (r := 1) hl (by omega) hs thr_at (by omega) (by omega)) (zSt_ob hs 74 13 rfl) rfl (by omega) (Nat.le_of_ble_eq_true rfl) rfl dX13_fits_22 ?_
    refine zJ_if_eq 30 dX13_fits_25 (by decide) (fun c25 => absurd c25 (by decide)) (fun _ => ?_)
    refine zJ_iconst (v := nI 0) dX13_fits_28 rfl ?_
    refine zJ_iret rfl dX13_fits_29 ?_
    exact ⟨_, _, rfl, rfl, k2, k1, k3⟩
  cases hx
def q_look (S : sT) (a1 : Int32) : List (Bool × Bool) := [(nRange a1 (nI 0) (nI 1), false)]
theorem m_lookN (hl : l.stackTraces = false) (hd : 12 ≤ d) (hs : zSt g) {S : sT} (hI : rI I S) {a1 : Int32} {k : Bool} (hx : rT (q_look S a1) = some k) : zEi l Xi mX13_look d [.ref 74, .int a1] I g (fun v J => J 74 0 = nI 1 ∧ rI J (rfU S k) ∧ rQ2 I J) := by
  refine zC_of hl rfl rfl rfl (Nat.le_of_ble_eq_true rfl) (zav_r (zSt_ob hs 74 13 rfl).1 (zav_i zav_0)) ?_
  have hB0 : rB (zup I 74 0 (nI 0)) S.2.1 := (rI_rQ hI rQ_thr).2.2.1
  unfold q_look at hx
  rcases rT_cons hx with ⟨c, rfl⟩ | ⟨h0, hx⟩
  · obtain ⟨k1, k2, k3⟩ := rI_bad (w := 1) (k := false) hI
    refine zJ_aload_n dX13_look_0 rfl ?_
    refine zJ_iconst (v := nI 0) dX13_look_1 rfl ?_
    refine zP_puti lf_X13_107 (zSt_ob hs 74 13 rfl) rfl dX13_look_2 ?_
    refine zJ_aload_n dX13_look_5 rfl ?_
    refine zJ_iload_n dX13_look_6 rfl ?_
    refine zJ_iconst (v := nI 0) dX13_look_7 rfl ?_
    refine zJ_iconst (v := nI 1) dX13_look_8 rfl ?_
    refine zP_callSi [_, _, _] _ ls_X13_141 (k_in (d := d - 1) hl (by omega)) rfl (by omega) (Nat.le_of_ble_eq_true rfl) rfl dX13_look_9 ?_
    rw [show decide (¬ a1 < (nI 0) ∧ a1 ≤ (nI 1)) = false from c]
    refine zJ_if_ne 19 dX13_look_12 (by decide) (fun c12 => absurd rfl c12) (fun _ => ?_)
    refine zJ_iconst (v := nI 1) dX13_look_15 rfl ?_
    refine zJ_goto 20 dX13_look_16 (by decide) ?_
    refine zJ_iconst (v := nI 1) dX13_look_20 rfl ?_
    refine zJ_iconst (v := nI 1) dX13_look_21 rfl ?_
    refine zP_callVi [_, _, _] _ lv_X13_186 (m_badT (d := d - 1) (w := 1) (r := 1) hl (by omega) hs thr_at (by omega) (by omega)) (zSt_ob hs 74 13 rfl) rfl (by omega) (Nat.le_of_ble_eq_true rfl) rfl dX13_look_22 ?_
    refine zJ_if_eq 30 dX13_look_25 (by decide) (fun c25 => absurd c25 (by decide)) (fun _ => ?_)
    refine zJ_iconst (v := nI 0) dX13_look_28 rfl ?_
    refine zJ_iret rfl dX13_look_29 ?_
    exact ⟨_, _, rfl, rfl, k2, k1, k3⟩
  cases hx
def q_crowd (S : sT) (a1 : Int32) : List (Bool × Bool) := [(nRange a1 (nI 0) (nI 1), false)]
theorem m_crowdN (hl : l.stackTraces = false) (hd : 12 ≤ d) (hs : zSt g) {S : sT} (hI : rI I S) {a1 : Int32} {k : Bool} (hx : rT (q_crowd S a1) = some k) : zEi l Xi mX13_crowd d [.ref 74, .int a1] I g (fun v J => J 74 0 = nI 1 ∧ rI J (rfU S k) ∧ rQ2 I J) := by
  refine zC_of hl rfl rfl rfl (Nat.le_of_ble_eq_true rfl) (zav_r (zSt_ob hs 74 13 rfl).1 (zav_i zav_0)) ?_
  have hB0 : rB (zup I 74 0 (nI 0)) S.2.1 := (rI_rQ hI rQ_thr).2.2.1
  unfold q_crowd at hx
  rcases rT_cons hx with ⟨c, rfl⟩ | ⟨h0, hx⟩
  · obtain ⟨k1, k2, k3⟩ := rI_bad (w := 1) (k := false) hI
    refine zJ_aload_n dX13_crowd_0 rfl ?_
    refine zJ_iconst (v := nI 0) dX13_crowd_1 rfl ?_
    refine zP_puti lf_X13_107 (zSt_ob hs 74 13 rfl) rfl dX13_crowd_2 ?_
    refine zJ_aload_n dX13_crowd_5 rfl ?_
    refine zJ_iload_n dX13_crowd_6 rfl ?_
    refine zJ_iconst (v := nI 0) dX13_crowd_7 rfl ?_
    refine zJ_iconst (v := nI 1) dX13_crowd_8 rfl ?_
    refine zP_callSi [_, _, _] _ ls_X13_141 (k_in (d := d - 1) hl (by omega)) rfl (by omega) (Nat.le_of_ble_eq_true rfl) rfl dX13_crowd_9 ?_
    rw [show decide (¬ a1 < (nI 0) ∧ a1 ≤ (nI 1)) = false from c]
    refine zJ_if_ne 19 dX13_crowd_12 (by decide) (fun c12 => absurd rfl c12) (fun _ => ?_)
    refine zJ_iconst (v := nI 1) dX13_crowd_15 rfl ?_
    refine zJ_goto 20 dX13_crowd_16 (by decide) ?_
    refine zJ_iconst (v := nI 1) dX13_crowd_20 rfl ?_
    refine zJ_iconst (v := nI 1) dX13_crowd_21 rfl ?_
    refine zP_callVi [_, _, _] _ lv_X13_186 (m_badT (d := d - 1) (w := 1) (r := 1) hl (by omega) hs thr_at (by omega) (by omega)) (zSt_ob hs 74 13 rfl) rfl (by omega) (Nat.le_of_ble_eq_true rfl) rfl dX13_crowd_22 ?_
    refine zJ_if_eq 30 dX13_crowd_25 (by decide) (fun c25 => absurd c25 (by decide)) (fun _ => ?_)
    refine zJ_iconst (v := nI 0) dX13_crowd_28 rfl ?_
    refine zJ_iret rfl dX13_crowd_29 ?_
    exact ⟨_, _, rfl, rfl, k2, k1, k3⟩
  cases hx
def q_tight (S : sT) (a1 : Int32) : List (Bool × Bool) := [(nRange a1 (nI 0) (nI 1), false)]
theorem m_tightN (hl : l.stackTraces = false) (hd : 12 ≤ d) (hs : zSt g) {S : sT} (hI : rI I S) {a1 : Int32} {k : Bool} (hx : rT (q_tight S a1) = some k) : zEi l Xi mX13_tight d [.ref 74, .int a1] I g (fun v J => J 74 0 = nI 1 ∧ rI J (rfU S k) ∧ rQ2 I J) := by
  refine zC_of hl rfl rfl rfl (Nat.le_of_ble_eq_true rfl) (zav_r (zSt_ob hs 74 13 rfl).1 (zav_i zav_0)) ?_
  have hB0 : rB (zup I 74 0 (nI 0)) S.2.1 := (rI_rQ hI rQ_thr).2.2.1
  unfold q_tight at hx
  rcases rT_cons hx with ⟨c, rfl⟩ | ⟨h0, hx⟩
  · obtain ⟨k1, k2, k3⟩ := rI_bad (w := 1) (k := false) hI
    refine zJ_aload_n dX13_tight_0 rfl ?_
    refine zJ_iconst (v := nI 0) dX13_tight_1 rfl ?_
    refine zP_puti lf_X13_107 (zSt_ob hs 74 13 rfl) rfl dX13_tight_2 ?_
    refine zJ_aload_n dX13_tight_5 rfl ?_
    refine zJ_iload_n dX13_tight_6 rfl ?_
    refine zJ_iconst (v := nI 0) dX13_tight_7 rfl ?_
    refine zJ_iconst (v := nI 1) dX13_tight_8 rfl ?_
    refine zP_callSi [_, _, _] _ ls_X13_141 (k_in (d := d - 1) hl (by omega)) rfl (by omega) (Nat.le_of_ble_eq_true rfl) rfl dX13_tight_9 ?_
    rw [show decide (¬ a1 < (nI 0) ∧ a1 ≤ (nI 1)) = false from c]
    refine zJ_if_ne 19 dX13_tight_12 (by decide) (fun c12 => absurd rfl c12) (fun _ => ?_)
    refine zJ_iconst (v := nI 1) dX13_tight_15 rfl ?_
    refine zJ_goto 20 dX13_tight_16 (by decide) ?_
    refine zJ_iconst (v := nI 1) dX13_tight_20 rfl ?_
    refine zJ_iconst (v := nI 1) dX13_tight_21 rfl ?_
    refine zP_callVi [_, _, _] _ lv_X13_186 (m_badT (d := d - 1) (w := 1) (r := 1) hl (by omega) hs thr_at (by omega) (by omega)) (zSt_ob hs 74 13 rfl) rfl (by omega) (Nat.le_of_ble_eq_true rfl) rfl dX13_tight_22 ?_
    refine zJ_if_eq 30 dX13_tight_25 (by decide) (fun c25 => absurd c25 (by decide)) (fun _ => ?_)
    refine zJ_iconst (v := nI 0) dX13_tight_28 rfl ?_
    refine zJ_iret rfl dX13_tight_29 ?_
    exact ⟨_, _, rfl, rfl, k2, k1, k3⟩
  cases hx
def q_season (S : sT) (a1 a2 a3 a4 : Int32) : List (Bool × Bool) := [(qSea a2 a3, false), (nRange a4 (nI 0) (nI 3), false)]
theorem m_seasonN (hl : l.stackTraces = false) (hd : 12 ≤ d) (hs : zSt g) {S : sT} (hI : rI I S) {a1 a2 a3 a4 : Int32} {k : Bool} (hx : rT (q_season S a1 a2 a3 a4) = some k) : zEi l Xi mX13_season d [.ref 74, .int a1, .int a2, .int a3, .int a4] I g (fun v J => J 74 0 = nI 1 ∧ rI J (rfU S k) ∧ rQ2 I J) := by
  refine zC_of hl rfl rfl rfl (Nat.le_of_ble_eq_true rfl) (zav_r (zSt_ob hs 74 13 rfl).1 (zav_i (zav_i (zav_i (zav_i zav_0))))) ?_
  have hB0 : rB (zup I 74 0 (nI 0)) S.2.1 := (rI_rQ hI rQ_thr).2.2.1
  unfold q_season at hx
  rcases rT_cons hx with ⟨c, rfl⟩ | ⟨h0, hx⟩
  · obtain ⟨k1, k2, k3⟩ := rI_bad (w := 1) (k := false) hI
    refine zJ_aload_n dX13_season_0 rfl ?_
    refine zJ_iconst (v := nI 0) dX13_season_1 rfl ?_
    refine zP_puti lf_X13_107 (zSt_ob hs 74 13 rfl) rfl dX13_season_2 ?_
    refine zJ_aload_n dX13_season_5 rfl ?_
    refine zJ_iload_n dX13_season_6 rfl ?_
    refine zJ_iload_n dX13_season_7 rfl ?_
    refine zP_callSi [_, _] _ ls_X13_456 (m_isSeason (d := d - 1) hl (by omega)) rfl (by omega) (Nat.le_of_ble_eq_true rfl) rfl dX13_season_8 ?_
    rw [c]
    refine zJ_if_eq 24 dX13_season_11 (by decide) (fun _ => ?_) (fun c11 => absurd rfl c11)
    refine zJ_iconst (v := nI 1) dX13_season_24 rfl ?_
    refine zJ_goto 29 dX13_season_25 (by decide) ?_
    refine zJ_iconst (v := nI 1) dX13_season_29 rfl ?_
    refine zJ_iconst (v := nI 1) dX13_season_30 rfl ?_
    refine zP_callVi [_, _, _] _ lv_X13_186 (m_badT (d := d - 1) (w := 1) (r := 1) hl (by omega) hs thr_at (by omega) (by omega)) (zSt_ob hs 74 13 rfl) rfl (by omega) (Nat.le_of_ble_eq_true rfl) rfl dX13_season_31 ?_
    refine zJ_if_eq 39 dX13_season_34 (by decide) (fun c34 => absurd c34 (by decide)) (fun _ => ?_)
    refine zJ_iconst (v := nI 0) dX13_season_37 rfl ?_
    refine zJ_iret rfl dX13_season_38 ?_
    exact ⟨_, _, rfl, rfl, k2, k1, k3⟩
  rcases rT_cons hx with ⟨c, rfl⟩ | ⟨h1, hx⟩
  · obtain ⟨k1, k2, k3⟩ := rI_bad (w := 1) (k := false) hI
    refine zJ_aload_n dX13_season_0 rfl ?_
    refine zJ_iconst (v := nI 0) dX13_season_1 rfl ?_
    refine zP_puti lf_X13_107 (zSt_ob hs 74 13 rfl) rfl dX13_season_2 ?_
    refine zJ_aload_n dX13_season_5 rfl ?_
    refine zJ_iload_n dX13_season_6 rfl ?_
    refine zJ_iload_n dX13_season_7 rfl ?_
    refine zP_callSi [_, _] _ ls_X13_456 (m_isSeason (d := d - 1) hl (by omega)) rfl (by omega) (Nat.le_of_ble_eq_true rfl) rfl dX13_season_8 ?_
    rw [h0]
    refine zJ_if_eq 24 dX13_season_11 (by decide) (fun c11 => absurd c11 (by decide)) (fun _ => ?_)
    refine zJ_iload dX13_season_14 rfl ?_
    refine zJ_iconst (v := nI 0) dX13_season_16 rfl ?_
    refine zJ_iconst (v := nI 3) dX13_season_17 rfl ?_
    refine zP_callSi [_, _, _] _ ls_X13_141 (k_in (d := d - 1) hl (by omega)) rfl (by omega) (Nat.le_of_ble_eq_true rfl) rfl dX13_season_18 ?_
    rw [show decide (¬ a4 < (nI 0) ∧ a4 ≤ (nI 3)) = false from c]
    refine zJ_if_ne 28 dX13_season_21 (by decide) (fun c21 => absurd rfl c21) (fun _ => ?_)
    refine zJ_iconst (v := nI 1) dX13_season_24 rfl ?_
    refine zJ_goto 29 dX13_season_25 (by decide) ?_
    refine zJ_iconst (v := nI 1) dX13_season_29 rfl ?_
    refine zJ_iconst (v := nI 1) dX13_season_30 rfl ?_
    refine zP_callVi [_, _, _] _ lv_X13_186 (m_badT (d := d - 1) (w := 1) (r := 1) hl (by omega) hs thr_at (by omega) (by omega)) (zSt_ob hs 74 13 rfl) rfl (by omega) (Nat.le_of_ble_eq_true rfl) rfl dX13_season_31 ?_
    refine zJ_if_eq 39 dX13_season_34 (by decide) (fun c34 => absurd c34 (by decide)) (fun _ => ?_)
    refine zJ_iconst (v := nI 0) dX13_season_37 rfl ?_
    refine zJ_iret rfl dX13_season_38 ?_
    exact ⟨_, _, rfl, rfl, k2, k1, k3⟩
  cases hx
def q_span (S : sT) (a1 a2 a3 a4 a5 a6 : Int32) : List (Bool × Bool) := [(qNet S.2.1 a6, true), (nRange a2 (nI 1) (nI 5), false), (qSea a3 a4, false), (nRange a5 (nI 0) (nI 2), false)]
theorem m_spanN (hl : l.stackTraces = false) (hd : 12 ≤ d) (hs : zSt g) {S : sT} (hI : rI I S) {a1 a2 a3 a4 a5 a6 : Int32} {k : Bool} (hx : rT (q_span S a1 a2 a3 a4 a5 a6) = some k) : zEi l Xi mX13_span d [.ref 74, .int a1, .int a2, .int a3, .int a4, .int a5, .int a6] I g (fun v J => J 74 0 = nI (if k then 1 else 2) ∧ rI J (rfU S k) ∧ rQ2 I J) := by
  refine zC_of hl rfl rfl rfl (Nat.le_of_ble_eq_true rfl) (zav_r (zSt_ob hs 74 13 rfl).1 (zav_i (zav_i (zav_i (zav_i (zav_i (zav_i zav_0))))))) ?_
  have hB0 : rB (zup I 74 0 (nI 0)) S.2.1 := (rI_rQ hI rQ_thr).2.2.1
  unfold q_span at hx
  rcases rT_cons hx with ⟨c, rfl⟩ | ⟨h0, hx⟩
  · obtain ⟨k1, k2, k3⟩ := rI_bad (w := 1) (k := true) hI
    refine zJ_aload_n dX13_span_0 rfl ?_
    refine zJ_iconst (v := nI 0) dX13_span_1 rfl ?_
    refine zP_puti lf_X13_107 (zSt_ob hs 74 13 rfl) rfl dX13_span_2 ?_
    refine zJ_aload_n dX13_span_5 rfl ?_
    refine zJ_aload_n dX13_span_6 rfl ?_
    refine zJ_iload dX13_span_7 rfl ?_
    refine zP_callVi [_] _ lv_X13_412 (m_isNet (d := d - 1) hl (by omega) hs hB0) (zSt_ob hs 74 13 rfl) rfl (by omega) (Nat.le_of_ble_eq_true rfl) rfl dX13_span_9 ?_
    rw [c]
    refine zJ_if_ne 19 dX13_span_12 (by decide) (fun c12 => absurd rfl c12) (fun _ => ?_)
    refine zJ_iconst (v := nI 1) dX13_span_15 rfl ?_
    refine zJ_goto 20 dX13_span_16 (by decide) ?_
    refine zJ_iconst (v := nI 1) dX13_span_20 rfl ?_
    refine zJ_iconst (v := nI 0) dX13_span_21 rfl ?_
    refine zP_callVi [_, _, _] _ lv_X13_186 (m_badT (d := d - 1) (w := 1) (r := 0) hl (by omega) hs thr_at (by omega) (by omega)) (zSt_ob hs 74 13 rfl) rfl (by omega) (Nat.le_of_ble_eq_true rfl) rfl dX13_span_22 ?_
    refine zJ_if_ne 70 dX13_span_25 (by decide) (fun _ => ?_) (fun c25 => absurd c25 (by decide))
    refine zJ_iconst (v := nI 0) dX13_span_70 rfl ?_
    refine zJ_iret rfl dX13_span_71 ?_
    exact ⟨_, _, rfl, rfl, k2, k1, k3⟩
  rcases rT_cons hx with ⟨c, rfl⟩ | ⟨h1, hx⟩
  · obtain ⟨k1, k2, k3⟩ := rI_bad (w := 2) (k := false) hI
    refine zJ_aload_n dX13_span_0 rfl ?_
    refine zJ_iconst (v := nI 0) dX13_span_1 rfl ?_
    refine zP_puti lf_X13_107 (zSt_ob hs 74 13 rfl) rfl dX13_span_2 ?_
    refine zJ_aload_n dX13_span_5 rfl ?_
    refine zJ_aload_n dX13_span_6 rfl ?_
    refine zJ_iload dX13_span_7 rfl ?_
    refine zP_callVi [_] _ lv_X13_412 (m_isNet (d := d - 1) hl (by omega) hs hB0) (zSt_ob hs 74 13 rfl) rfl (by omega) (Nat.le_of_ble_eq_true rfl) rfl dX13_span_9 ?_
    rw [h0]
    refine zJ_if_ne 19 dX13_span_12 (by decide) (fun _ => ?_) (fun c12 => absurd c12 (by decide))
    refine zJ_iconst (v := nI 0) dX13_span_19 rfl ?_
    refine zJ_iconst (v := nI 1) dX13_span_20 rfl ?_
    refine zJ_iconst (v := nI 0) dX13_span_21 rfl ?_
    refine zP_callVi [_, _, _] _ lv_X13_186 (m_badF (d := d - 1) hl (by omega) hs thr_at) (zSt_ob hs 74 13 rfl) rfl (by omega) (Nat.le_of_ble_eq_true rfl) rfl dX13_span_22 ?_
    refine zJ_if_ne 70 dX13_span_25 (by decide) (fun c25 => absurd rfl c25) (fun _ => ?_)
    refine zJ_aload_n dX13_span_28 rfl ?_
    refine zJ_iload_n dX13_span_29 rfl ?_
    refine zJ_iconst (v := nI 1) dX13_span_30 rfl ?_
    refine zJ_iconst (v := nI 5) dX13_span_31 rfl ?_
    refine zP_callSi [_, _, _] _ ls_X13_141 (k_in (d := d - 1) hl (by omega)) rfl (by omega) (Nat.le_of_ble_eq_true rfl) rfl dX13_span_32 ?_
    rw [show decide (¬ a2 < (nI 1) ∧ a2 ≤ (nI 5)) = false from c]
    refine zJ_if_eq 57 dX13_span_35 (by decide) (fun _ => ?_) (fun c35 => absurd rfl c35)
    refine zJ_iconst (v := nI 1) dX13_span_57 rfl ?_
    refine zJ_goto 62 dX13_span_58 (by decide) ?_
    refine zJ_iconst (v := nI 2) dX13_span_62 rfl ?_
    refine zJ_iconst (v := nI 1) dX13_span_63 rfl ?_
    refine zP_callVi [_, _, _] _ lv_X13_186 (m_badT (d := d - 1) (w := 2) (r := 1) hl (by omega) hs thr_at (by omega) (by omega)) (zSt_ob hs 74 13 rfl) rfl (by omega) (Nat.le_of_ble_eq_true rfl) rfl dX13_span_64 ?_
    refine zJ_if_eq 72 dX13_span_67 (by decide) (fun c67 => absurd c67 (by decide)) (fun _ => ?_)
    refine zJ_iconst (v := nI 0) dX13_span_70 rfl ?_
    refine zJ_iret rfl dX13_span_71 ?_
    exact ⟨_, _, rfl, rfl, k2, k1, k3⟩
  rcases rT_cons hx with ⟨c, rfl⟩ | ⟨h2, hx⟩
  · obtain ⟨k1, k2, k3⟩ := rI_bad (w := 2) (k := false) hI
    refine zJ_aload_n dX13_span_0 rfl ?_
    refine zJ_iconst (v := nI 0) dX13_span_1 rfl ?_
    refine zP_puti lf_X13_107 (zSt_ob hs 74 13 rfl) rfl dX13_span_2 ?_
    refine zJ_aload_n dX13_span_5 rfl ?_
    refine zJ_aload_n dX13_span_6 rfl ?_
    refine zJ_iload dX13_span_7 rfl ?_
    refine zP_callVi [_] _ lv_X13_412 (m_isNet (d := d - 1) hl (by omega) hs hB0) (zSt_ob hs 74 13 rfl) rfl (by omega) (Nat.le_of_ble_eq_true rfl) rfl dX13_span_9 ?_
    rw [h0]
    refine zJ_if_ne 19 dX13_span_12 (by decide) (fun _ => ?_) (fun c12 => absurd c12 (by decide))
    refine zJ_iconst (v := nI 0) dX13_span_19 rfl ?_
    refine zJ_iconst (v := nI 1) dX13_span_20 rfl ?_
    refine zJ_iconst (v := nI 0) dX13_span_21 rfl ?_
    refine zP_callVi [_, _, _] _ lv_X13_186 (m_badF (d := d - 1) hl (by omega) hs thr_at) (zSt_ob hs 74 13 rfl) rfl (by omega) (Nat.le_of_ble_eq_true rfl) rfl dX13_span_22 ?_
    refine zJ_if_ne 70 dX13_span_25 (by decide) (fun c25 => absurd rfl c25) (fun _ => ?_)
    refine zJ_aload_n dX13_span_28 rfl ?_
    refine zJ_iload_n dX13_span_29 rfl ?_
    refine zJ_iconst (v := nI 1) dX13_span_30 rfl ?_
    refine zJ_iconst (v := nI 5) dX13_span_31 rfl ?_
    refine zP_callSi [_, _, _] _ ls_X13_141 (k_in (d := d - 1) hl (by omega)) rfl (by omega) (Nat.le_of_ble_eq_true rfl) rfl dX13_span_32 ?_
    rw [show decide (¬ a2 < (nI 1) ∧ a2 ≤ (nI 5)) = true from h1]
    refine zJ_if_eq 57 dX13_span_35 (by decide) (fun c35 => absurd c35 (by decide)) (fun _ => ?_)
    refine zJ_iload_n dX13_span_38 rfl ?_
    refine zJ_iload dX13_span_39 rfl ?_
    refine zP_callSi [_, _] _ ls_X13_456 (m_isSeason (d := d - 1) hl (by omega)) rfl (by omega) (Nat.le_of_ble_eq_true rfl) rfl dX13_span_41 ?_
    rw [c]
    refine zJ_if_eq 57 dX13_span_44 (by decide) (fun _ => ?_) (fun c44 => absurd rfl c44)
    refine zJ_iconst (v := nI 1) dX13_span_57 rfl ?_
    refine zJ_goto 62 dX13_span_58 (by decide) ?_
    refine zJ_iconst (v := nI 2) dX13_span_62 rfl ?_
    refine zJ_iconst (v := nI 1) dX13_span_63 rfl ?_
    refine zP_callVi [_, _, _] _ lv_X13_186 (m_badT (d := d - 1) (w := 2) (r := 1) hl (by omega) hs thr_at (by omega) (by omega)) (zSt_ob hs 74 13 rfl) rfl (by omega) (Nat.le_of_ble_eq_true rfl) rfl dX13_span_64 ?_
    refine zJ_if_eq 72 dX13_span_67 (by decide) (fun c67 => absurd c67 (by decide)) (fun _ => ?_)
    refine zJ_iconst (v := nI 0) dX13_span_70 rfl ?_
    refine zJ_iret rfl dX13_span_71 ?_
    exact ⟨_, _, rfl, rfl, k2, k1, k3⟩
  rcases rT_cons hx with ⟨c, rfl⟩ | ⟨h3, hx⟩
  · obtain ⟨k1, k2, k3⟩ := rI_bad (w := 2) (k := false) hI
    refine zJ_aload_n dX13_span_0 rfl ?_
    refine zJ_iconst (v := nI 0) dX13_span_1 rfl ?_
    refine zP_puti lf_X13_107 (zSt_ob hs 74 13 rfl) rfl dX13_span_2 ?_
    refine zJ_aload_n dX13_span_5 rfl ?_
    refine zJ_aload_n dX13_span_6 rfl ?_
    refine zJ_iload dX13_span_7 rfl ?_
    refine zP_callVi [_] _ lv_X13_412 (m_isNet (d := d - 1) hl (by omega) hs hB0) (zSt_ob hs 74 13 rfl) rfl (by omega) (Nat.le_of_ble_eq_true rfl) rfl dX13_span_9 ?_
    rw [h0]
    refine zJ_if_ne 19 dX13_span_12 (by decide) (fun _ => ?_) (fun c12 => absurd c12 (by decide))
    refine zJ_iconst (v := nI 0) dX13_span_19 rfl ?_
    refine zJ_iconst (v := nI 1) dX13_span_20 rfl ?_
    refine zJ_iconst (v := nI 0) dX13_span_21 rfl ?_
    refine zP_callVi [_, _, _] _ lv_X13_186 (m_badF (d := d - 1) hl (by omega) hs thr_at) (zSt_ob hs 74 13 rfl) rfl (by omega) (Nat.le_of_ble_eq_true rfl) rfl dX13_span_22 ?_
    refine zJ_if_ne 70 dX13_span_25 (by decide) (fun c25 => absurd rfl c25) (fun _ => ?_)
    refine zJ_aload_n dX13_span_28 rfl ?_
    refine zJ_iload_n dX13_span_29 rfl ?_
    refine zJ_iconst (v := nI 1) dX13_span_30 rfl ?_
    refine zJ_iconst (v := nI 5) dX13_span_31 rfl ?_
    refine zP_callSi [_, _, _] _ ls_X13_141 (k_in (d := d - 1) hl (by omega)) rfl (by omega) (Nat.le_of_ble_eq_true rfl) rfl dX13_span_32 ?_
    rw [show decide (¬ a2 < (nI 1) ∧ a2 ≤ (nI 5)) = true from h1]
    refine zJ_if_eq 57 dX13_span_35 (by decide) (fun c35 => absurd c35 (by decide)) (fun _ => ?_)
    refine zJ_iload_n dX13_span_38 rfl ?_
    refine zJ_iload dX13_span_39 rfl ?_
    refine zP_callSi [_, _] _ ls_X13_456 (m_isSeason (d := d - 1) hl (by omega)) rfl (by omega) (Nat.le_of_ble_eq_true rfl) rfl dX13_span_41 ?_
    rw [h2]
    refine zJ_if_eq 57 dX13_span_44 (by decide) (fun c44 => absurd c44 (by decide)) (fun _ => ?_)
    refine zJ_iload dX13_span_47 rfl ?_
    refine zJ_iconst (v := nI 0) dX13_span_49 rfl ?_
    refine zJ_iconst (v := nI 2) dX13_span_50 rfl ?_
    refine zP_callSi [_, _, _] _ ls_X13_141 (k_in (d := d - 1) hl (by omega)) rfl (by omega) (Nat.le_of_ble_eq_true rfl) rfl dX13_span_51 ?_
    rw [show decide (¬ a5 < (nI 0) ∧ a5 ≤ (nI 2)) = false from c]
    refine zJ_if_ne 61 dX13_span_54 (by decide) (fun c54 => absurd rfl c54) (fun _ => ?_)
    refine zJ_iconst (v := nI 1) dX13_span_57 rfl ?_
    refine zJ_goto 62 dX13_span_58 (by decide) ?_
    refine zJ_iconst (v := nI 2) dX13_span_62 rfl ?_
    refine zJ_iconst (v := nI 1) dX13_span_63 rfl ?_
    refine zP_callVi [_, _, _] _ lv_X13_186 (m_badT (d := d - 1) (w := 2) (r := 1) hl (by omega) hs thr_at (by omega) (by omega)) (zSt_ob hs 74 13 rfl) rfl (by omega) (Nat.le_of_ble_eq_true rfl) rfl dX13_span_64 ?_
    refine zJ_if_eq 72 dX13_span_67 (by decide) (fun c67 => absurd c67 (by decide)) (fun _ => ?_)
    refine zJ_iconst (v := nI 0) dX13_span_70 rfl ?_
    refine zJ_iret rfl dX13_span_71 ?_
    exact ⟨_, _, rfl, rfl, k2, k1, k3⟩
  cases hx
end ZRefW
