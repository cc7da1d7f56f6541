/-! ===== State: has, put, drop, sizeOf, dropAll (walks by wip/whole/walk.py) ===== -/
section ZState
variable {l : Launch} {Xi : zXi} {d : Nat} {I : zI} {g : zG}
theorem nI_lin (a b c : Nat) : nI a * (64 : Int32) + nI b = nI (a * 64 + b) := by
  rw [show (64 : Int32) = nI 64 from rfl, pk_mul, nI_add]
theorem k_X3_clear (hl : l.stackTraces = false) (hd : 1 ≤ d) {b : Nat} (hb : zK g b 3 zLt_Heap) : zD l Xi mX3_clear d [.ref b] I g none (zup I b 1 0) := by
  refine zC_of hl rfl rfl rfl (Nat.le_of_ble_eq_true rfl) (zav_r hb.1.1 zav_0) ?_
  refine zJ_aload_n dX3_clear_0 rfl ?_
  refine zJ_iconst (v := nI 0) dX3_clear_1 rfl ?_
  refine zP_puti lf_X3_15 hb.1 rfl dX3_clear_2 ?_
  refine zJ_vret rfl dX3_clear_5 ?_
  exact ⟨rfl, rfl⟩
theorem k_X3_isEmpty (hl : l.stackTraces = false) (hd : 1 ≤ d) {b : Nat} (hb : zK g b 3 zLt_Heap) : zD l Xi mX3_isEmpty d [.ref b] I g (some (.int (if I b 1 = 0 then 1 else 0))) I := by
  refine zC_of hl rfl rfl rfl (Nat.le_of_ble_eq_true rfl) (zav_r hb.1.1 zav_0) ?_
  refine zJ_aload_n dX3_isEmpty_0 rfl ?_
  refine zP_geti lf_X3_15 hb.1 rfl dX3_isEmpty_1 ?_
  refine zJ_if_ne 11 dX3_isEmpty_4 (by decide) (fun c4 => ?_) (fun c4 => ?_)
  · skip
    refine zJ_iconst (v := nI 0) dX3_isEmpty_11 rfl ?_
    refine zJ_zret rfl (by decide) dX3_isEmpty_12 ?_
    exact ⟨by rw [if_neg c4]; rfl, rfl⟩
  · skip
    refine zJ_iconst (v := nI 1) dX3_isEmpty_7 rfl ?_
    refine zJ_goto 12 dX3_isEmpty_8 (by decide) ?_
    refine zJ_zret rfl (by decide) dX3_isEmpty_12 ?_
    exact ⟨by rw [if_pos c4]; rfl, rfl⟩
/-- does net n's tree have the place p -/
def hasW (I : zI) (s n p : Nat) : Prop := ¬ I (s + 1) (n * 64 + p) = -1
theorem k_X8_has (hl : l.stackTraces = false) (hd : 1 ≤ d) {s n p : Nat} (hs8 : zK g s 8 zLt_State) (hn : n < 6) (hp : p < 64) : zD l Xi mX8_has d [.ref s, .int (nI n), .int (nI p)] I g (some (.int (if I (s + 1) (n * 64 + p) = -1 then 0 else 1))) I := by
  refine zC_of hl rfl rfl rfl (Nat.le_of_ble_eq_true rfl) (zav_r hs8.1.1 (zav_i (zav_i zav_0))) ?_
  refine zJ_aload_n dX8_has_0 rfl ?_
  refine zP_getr lf_X8_9 hs8.1 rfl (zK_rf hs8 0 0 1 384 rfl) dX8_has_1 ?_
  refine zJ_iload_n dX8_has_4 rfl ?_
  refine zJ_bipush (v := nI 64) dX8_has_5 rfl ?_
  refine zJ_imul dX8_has_7 ?_
  refine zJ_iload_n dX8_has_8 rfl ?_
  refine zJ_iadd dX8_has_9 ?_
  refine zP_iald (zK_ar hs8 0 0 1 384 rfl) (by first | assumption | with_reducible exact vp_in_nI (by omega) (by omega) | (simp (disch := omega) only [nI_add, pk_mul, pk_sub, pk_div, pk_rem, nI_clamp]; with_reducible exact vp_in_nI (by omega) (by omega))) dX8_has_10 ?_
  refine zJ_iconst (v := -1) dX8_has_11 rfl ?_
  refine zJ_icmp_eq 19 dX8_has_12 (by decide) (fun c12 => ?_) (fun c12 => ?_)
  · skip
    refine zJ_iconst (v := nI 0) dX8_has_19 rfl ?_
    refine zJ_zret rfl (by decide) dX8_has_20 ?_
    simp (disch := omega) only [nI_add, pk_mul, nI_clamp] at c12
    exact ⟨by rw [if_pos c12]; rfl, rfl⟩
  · skip
    refine zJ_iconst (v := nI 1) dX8_has_15 rfl ?_
    refine zJ_goto 20 dX8_has_16 (by decide) ?_
    refine zJ_zret rfl (by decide) dX8_has_20 ?_
    simp (disch := omega) only [nI_add, pk_mul, nI_clamp] at c12
    exact ⟨by rw [if_neg c12]; rfl, rfl⟩
/-- has, as a number -/
def hasB (I : zI) (s n p : Nat) : Bool := decide (¬ I (s + 1) (n * 64 + p) = -1)
theorem k_has (hl : l.stackTraces = false) (hd : 1 ≤ d) {s n p : Nat} (hs8 : zK g s 8 zLt_State) (hn : n < 6) (hp : p < 64) : zD l Xi mX8_has d [.ref s, .int (nI n), .int (nI p)] I g (some (.int (if hasB I s n p then 1 else 0))) I := by
  have h := k_X8_has (Xi := Xi) (I := I) hl hd hs8 hn hp
  by_cases e : I (s + 1) (n * 64 + p) = -1
  · rw [if_pos e] at h
    rw [show hasB I s n p = false by simp [hasB, e]]
    exact h
  · rw [if_neg e] at h
    rw [show hasB I s n p = true by simp [hasB, e]]
    exact h
def f_put (I : zI) (s n p : Nat) (w : Int32) : zI := zup (if hasB I s n p then I else zup I (s + 2) p (I (s + 2) p + 1)) (s + 1) (n * 64 + p) w
def f_drop (I : zI) (s n p : Nat) : zI := zup (if hasB I s n p then zup I (s + 2) p (I (s + 2) p - 1) else I) (s + 1) (n * 64 + p) (-1)
theorem k_X8_put (hl : l.stackTraces = false) (hd : 2 ≤ d) {s n p : Nat} {w : Int32} (hs8 : zK g s 8 zLt_State) (hn : n < 6) (hp : p < 64) : zD l Xi mX8_put d [.ref s, .int (nI n), .int (nI p), .int w] I g none (f_put I s n p w) := by
  refine zC_of hl rfl rfl rfl (Nat.le_of_ble_eq_true rfl) (zav_r hs8.1.1 (zav_i (zav_i (zav_i zav_0)))) ?_
  cases hh : hasB I s n p with
  | true =>
    refine zJ_aload_n dX8_put_0 rfl ?_
    refine zJ_iload_n dX8_put_1 rfl ?_
    refine zJ_iload_n dX8_put_2 rfl ?_
    refine zP_callVi [_, _] _ lv_X8_47 (k_has (d := d - 1) hl (by omega) hs8 hn hp) hs8.1 rfl (by omega) (Nat.le_of_ble_eq_true rfl) rfl dX8_put_3 ?_
    refine zJ_if_ne 19 dX8_put_6 (by decide) (fun _ => ?_) (fun c6 => absurd c6 (by rw [hh]; decide))
    refine zJ_aload_n dX8_put_19 rfl ?_
    refine zP_getr lf_X8_9 hs8.1 rfl (zK_rf hs8 0 0 1 384 rfl) dX8_put_20 ?_
    refine zJ_iload_n dX8_put_23 rfl ?_
    refine zJ_bipush (v := nI 64) dX8_put_24 rfl ?_
    refine zJ_imul dX8_put_26 ?_
    refine zJ_iload_n dX8_put_27 rfl ?_
    refine zJ_iadd dX8_put_28 ?_
    refine zJ_iload_n dX8_put_29 rfl ?_
    refine zP_iast (zK_ar hs8 0 0 1 384 rfl) (by first | assumption | with_reducible exact vp_in_nI (by omega) (by omega) | (simp (disch := omega) only [nI_add, pk_mul, pk_sub, pk_div, pk_rem, nI_clamp]; with_reducible exact vp_in_nI (by omega) (by omega))) dX8_put_30 ?_
    refine zJ_vret rfl dX8_put_31 ?_
    refine ⟨rfl, ?_⟩
    simp (disch := omega) only [nI_add, pk_mul, nI_clamp, f_put, hh, if_true]
  | false =>
    refine zJ_aload_n dX8_put_0 rfl ?_
    refine zJ_iload_n dX8_put_1 rfl ?_
    refine zJ_iload_n dX8_put_2 rfl ?_
    refine zP_callVi [_, _] _ lv_X8_47 (k_has (d := d - 1) hl (by omega) hs8 hn hp) hs8.1 rfl (by omega) (Nat.le_of_ble_eq_true rfl) rfl dX8_put_3 ?_
    refine zJ_if_ne 19 dX8_put_6 (by decide) (fun c6 => absurd (by rw [hh]; decide) c6) (fun _ => ?_)
    refine zJ_aload_n dX8_put_9 rfl ?_
    refine zP_getr lf_X8_15 hs8.1 rfl (zK_rf hs8 1 1 2 64 rfl) dX8_put_10 ?_
    refine zJ_iload_n dX8_put_13 rfl ?_
    refine zJ_dup2 dX8_put_14 rfl rfl ?_
    refine zP_iald (zK_ar hs8 1 1 2 64 rfl) (by first | assumption | with_reducible exact vp_in_nI (by omega) (by omega) | (simp (disch := omega) only [nI_add, pk_mul, pk_sub, pk_div, pk_rem, nI_clamp]; with_reducible exact vp_in_nI (by omega) (by omega))) dX8_put_15 ?_
    refine zJ_iconst (v := nI 1) dX8_put_16 rfl ?_
    refine zJ_iadd dX8_put_17 ?_
    refine zP_iast (zK_ar hs8 1 1 2 64 rfl) (by first | assumption | with_reducible exact vp_in_nI (by omega) (by omega) | (simp (disch := omega) only [nI_add, pk_mul, pk_sub, pk_div, pk_rem, nI_clamp]; with_reducible exact vp_in_nI (by omega) (by omega))) dX8_put_18 ?_
    refine zJ_aload_n dX8_put_19 rfl ?_
    refine zP_getr lf_X8_9 hs8.1 rfl (zK_rf hs8 0 0 1 384 rfl) dX8_put_20 ?_
    refine zJ_iload_n dX8_put_23 rfl ?_
    refine zJ_bipush (v := nI 64) dX8_put_24 rfl ?_
    refine zJ_imul dX8_put_26 ?_
    refine zJ_iload_n dX8_put_27 rfl ?_
    refine zJ_iadd dX8_put_28 ?_
    refine zJ_iload_n dX8_put_29 rfl ?_
    refine zP_iast (zK_ar hs8 0 0 1 384 rfl) (by first | assumption | with_reducible exact vp_in_nI (by omega) (by omega) | (simp (disch := omega) only [nI_add, pk_mul, pk_sub, pk_div, pk_rem, nI_clamp]; with_reducible exact vp_in_nI (by omega) (by omega))) dX8_put_30 ?_
    refine zJ_vret rfl dX8_put_31 ?_
    refine ⟨rfl, ?_⟩
    simp (disch := omega) only [nI_add, pk_mul, nI_clamp, f_put, hh]
    rfl
theorem k_X8_drop (hl : l.stackTraces = false) (hd : 2 ≤ d) {s n p : Nat} (hs8 : zK g s 8 zLt_State) (hn : n < 6) (hp : p < 64) : zD l Xi mX8_drop d [.ref s, .int (nI n), .int (nI p)] I g none (f_drop I s n p) := by
  refine zC_of hl rfl rfl rfl (Nat.le_of_ble_eq_true rfl) (zav_r hs8.1.1 (zav_i (zav_i zav_0))) ?_
  cases hh : hasB I s n p with
  | true =>
    refine zJ_aload_n dX8_drop_0 rfl ?_
    refine zJ_iload_n dX8_drop_1 rfl ?_
    refine zJ_iload_n dX8_drop_2 rfl ?_
    refine zP_callVi [_, _] _ lv_X8_47 (k_has (d := d - 1) hl (by omega) hs8 hn hp) hs8.1 rfl (by omega) (Nat.le_of_ble_eq_true rfl) rfl dX8_drop_3 ?_
    refine zJ_if_eq 19 dX8_drop_6 (by decide) (fun c6 => absurd c6 (by rw [hh]; decide)) (fun _ => ?_)
    refine zJ_aload_n dX8_drop_9 rfl ?_
    refine zP_getr lf_X8_15 hs8.1 rfl (zK_rf hs8 1 1 2 64 rfl) dX8_drop_10 ?_
    refine zJ_iload_n dX8_drop_13 rfl ?_
    refine zJ_dup2 dX8_drop_14 rfl rfl ?_
    refine zP_iald (zK_ar hs8 1 1 2 64 rfl) (by first | assumption | with_reducible exact vp_in_nI (by omega) (by omega) | (simp (disch := omega) only [nI_add, pk_mul, pk_sub, pk_div, pk_rem, nI_clamp]; with_reducible exact vp_in_nI (by omega) (by omega))) dX8_drop_15 ?_
    refine zJ_iconst (v := nI 1) dX8_drop_16 rfl ?_
    refine zJ_isub dX8_drop_17 ?_
    refine zP_iast (zK_ar hs8 1 1 2 64 rfl) (by first | assumption | with_reducible exact vp_in_nI (by omega) (by omega) | (simp (disch := omega) only [nI_add, pk_mul, pk_sub, pk_div, pk_rem, nI_clamp]; with_reducible exact vp_in_nI (by omega) (by omega))) dX8_drop_18 ?_
    refine zJ_aload_n dX8_drop_19 rfl ?_
    refine zP_getr lf_X8_9 hs8.1 rfl (zK_rf hs8 0 0 1 384 rfl) dX8_drop_20 ?_
    refine zJ_iload_n dX8_drop_23 rfl ?_
    refine zJ_bipush (v := nI 64) dX8_drop_24 rfl ?_
    refine zJ_imul dX8_drop_26 ?_
    refine zJ_iload_n dX8_drop_27 rfl ?_
    refine zJ_iadd dX8_drop_28 ?_
    refine zJ_iconst (v := -1) dX8_drop_29 rfl ?_
    refine zP_iast (zK_ar hs8 0 0 1 384 rfl) (by first | assumption | with_reducible exact vp_in_nI (by omega) (by omega) | (simp (disch := omega) only [nI_add, pk_mul, pk_sub, pk_div, pk_rem, nI_clamp]; with_reducible exact vp_in_nI (by omega) (by omega))) dX8_drop_30 ?_
    refine zJ_vret rfl dX8_drop_31 ?_
    refine ⟨rfl, ?_⟩
    simp (disch := omega) only [nI_add, pk_mul, nI_clamp, f_drop, hh, if_true]
    rfl
  | false =>
    refine zJ_aload_n dX8_drop_0 rfl ?_
    refine zJ_iload_n dX8_drop_1 rfl ?_
    refine zJ_iload_n dX8_drop_2 rfl ?_
    refine zP_callVi [_, _] _ lv_X8_47 (k_has (d := d - 1) hl (by omega) hs8 hn hp) hs8.1 rfl (by omega) (Nat.le_of_ble_eq_true rfl) rfl dX8_drop_3 ?_
    refine zJ_if_eq 19 dX8_drop_6 (by decide) (fun _ => ?_) (fun c6 => absurd (by rw [hh]; decide) c6)
    refine zJ_aload_n dX8_drop_19 rfl ?_
    refine zP_getr lf_X8_9 hs8.1 rfl (zK_rf hs8 0 0 1 384 rfl) dX8_drop_20 ?_
    refine zJ_iload_n dX8_drop_23 rfl ?_
    refine zJ_bipush (v := nI 64) dX8_drop_24 rfl ?_
    refine zJ_imul dX8_drop_26 ?_
    refine zJ_iload_n dX8_drop_27 rfl ?_
    refine zJ_iadd dX8_drop_28 ?_
    refine zJ_iconst (v := -1) dX8_drop_29 rfl ?_
    refine zP_iast (zK_ar hs8 0 0 1 384 rfl) (by first | assumption | with_reducible exact vp_in_nI (by omega) (by omega) | (simp (disch := omega) only [nI_add, pk_mul, pk_sub, pk_div, pk_rem, nI_clamp]; with_reducible exact vp_in_nI (by omega) (by omega))) dX8_drop_30 ?_
    refine zJ_vret rfl dX8_drop_31 ?_
    refine ⟨rfl, ?_⟩
    simp (disch := omega) only [nI_add, pk_mul, nI_clamp, f_drop, hh]
    rfl
/-- the first k places dropped -/
def f_dropN (I : zI) (s n : Nat) : Nat → zI
  | 0 => I
  | k + 1 => f_drop (f_dropN I s n k) s n k
/-- whether one of the first k was there -/
def f_anyN (I : zI) (s n : Nat) : Nat → Bool
  | 0 => false
  | k + 1 => f_anyN I s n k || hasB (f_dropN I s n k) s n k
theorem k_X8_dropAll (hl : l.stackTraces = false) (hd : 3 ≤ d) {s n : Nat} (hs8 : zK g s 8 zLt_State) (hn : n < 6) : zD l Xi mX8_dropAll d [.ref s, .int (nI n)] I g (some (.int (if f_anyN I s n 64 then 1 else 0))) (f_dropN I s n 64) := by
  refine zC_of hl rfl rfl rfl (Nat.le_of_ble_eq_true rfl) (zav_r hs8.1.1 (zav_i zav_0)) ?_
  have loop : ∀ m p, p + m = 64 → zJ l Xi mX8_dropAll d 0 0 4 [some (.ref s), some (.int (nI n)), some (.int (if f_anyN I s n p then 1 else 0)), some (.int (nI p))] [] (f_dropN I s n p, g) (fun r' h' => r' = .inl (some (.int (if f_anyN I s n 64 then 1 else 0))) ∧ h' = (f_dropN I s n 64, g)) := by
    intro m
    induction m with
    | zero =>
      intro p hp
      obtain rfl : p = 64 := by omega
      refine zJ_iload_n dX8_dropAll_4 rfl ?_
      refine zJ_bipush (v := nI 64) dX8_dropAll_5 rfl ?_
      refine zJ_icmp_ge 41 dX8_dropAll_7 (by decide) (fun _ => ?_) (fun c7 => absurd (nI_le (by omega) (by omega)) c7)
      refine zJ_iload_n dX8_dropAll_41 rfl ?_
      refine zJ_zret rfl (by cases f_anyN I s n 64 <;> decide) dX8_dropAll_42 ?_
      exact ⟨rfl, rfl⟩
    | succ m ih =>
      intro p hp
      have IH := ih (p + 1) (by omega)
      cases ha : f_anyN I s n p with
      | true =>
        rw [show f_anyN I s n (p + 1) = true by simp [f_anyN, ha]] at IH
        refine zJ_iload_n dX8_dropAll_4 rfl ?_
        refine zJ_bipush (v := nI 64) dX8_dropAll_5 rfl ?_
        refine zJ_icmp_ge 41 dX8_dropAll_7 (by decide) (fun c7 => absurd c7 (nI_ge (by omega) (by omega))) (fun _ => ?_)
        refine zJ_iload_n dX8_dropAll_10 rfl ?_
        refine zJ_if_ne 23 dX8_dropAll_11 (by decide) (fun _ => ?_) (fun c11 => absurd c11 (by decide))
        refine zJ_iconst (v := nI 1) dX8_dropAll_23 rfl ?_
        refine zJ_goto 28 dX8_dropAll_24 (by decide) ?_
        refine zJ_istore_m 2 dX8_dropAll_28 rfl (Nat.le_of_ble_eq_true rfl) (by decide) ?_
        refine zJ_aload_n dX8_dropAll_29 rfl ?_
        refine zJ_iload_n dX8_dropAll_30 rfl ?_
        refine zJ_iload_n dX8_dropAll_31 rfl ?_
        refine zP_callVv [_, _] _ lv_X8_51 (k_X8_drop (d := d - 1) hl (by omega) hs8 hn (by omega)) hs8.1 rfl (by omega) (Nat.le_of_ble_eq_true rfl) rfl dX8_dropAll_32 ?_
        refine zJ_iinc1 dX8_dropAll_35 rfl (by decide) ?_
        refine zJ_goto 4 dX8_dropAll_38 (by decide) ?_
        exact IH
      | false =>
        cases hh : hasB (f_dropN I s n p) s n p with
        | true =>
          rw [show f_anyN I s n (p + 1) = true by simp [f_anyN, ha, hh]] at IH
          refine zJ_iload_n dX8_dropAll_4 rfl ?_
          refine zJ_bipush (v := nI 64) dX8_dropAll_5 rfl ?_
          refine zJ_icmp_ge 41 dX8_dropAll_7 (by decide) (fun c7 => absurd c7 (nI_ge (by omega) (by omega))) (fun _ => ?_)
          refine zJ_iload_n dX8_dropAll_10 rfl ?_
          refine zJ_if_ne 23 dX8_dropAll_11 (by decide) (fun c11 => absurd (by decide) c11) (fun _ => ?_)
          refine zJ_aload_n dX8_dropAll_14 rfl ?_
          refine zJ_iload_n dX8_dropAll_15 rfl ?_
          refine zJ_iload_n dX8_dropAll_16 rfl ?_
          refine zP_callVi [_, _] _ lv_X8_47 (k_has (d := d - 1) hl (by omega) hs8 hn (by omega)) hs8.1 rfl (by omega) (Nat.le_of_ble_eq_true rfl) rfl dX8_dropAll_17 ?_
          refine zJ_if_eq 27 dX8_dropAll_20 (by decide) (fun c20 => absurd c20 (by rw [hh]; decide)) (fun _ => ?_)
          refine zJ_iconst (v := nI 1) dX8_dropAll_23 rfl ?_
          refine zJ_goto 28 dX8_dropAll_24 (by decide) ?_
          refine zJ_istore_m 2 dX8_dropAll_28 rfl (Nat.le_of_ble_eq_true rfl) (by decide) ?_
          refine zJ_aload_n dX8_dropAll_29 rfl ?_
          refine zJ_iload_n dX8_dropAll_30 rfl ?_
          refine zJ_iload_n dX8_dropAll_31 rfl ?_
          refine zP_callVv [_, _] _ lv_X8_51 (k_X8_drop (d := d - 1) hl (by omega) hs8 hn (by omega)) hs8.1 rfl (by omega) (Nat.le_of_ble_eq_true rfl) rfl dX8_dropAll_32 ?_
          refine zJ_iinc1 dX8_dropAll_35 rfl (by decide) ?_
          refine zJ_goto 4 dX8_dropAll_38 (by decide) ?_
          exact IH
        | false =>
          rw [show f_anyN I s n (p + 1) = false by simp [f_anyN, ha, hh]] at IH
          refine zJ_iload_n dX8_dropAll_4 rfl ?_
          refine zJ_bipush (v := nI 64) dX8_dropAll_5 rfl ?_
          refine zJ_icmp_ge 41 dX8_dropAll_7 (by decide) (fun c7 => absurd c7 (nI_ge (by omega) (by omega))) (fun _ => ?_)
          refine zJ_iload_n dX8_dropAll_10 rfl ?_
          refine zJ_if_ne 23 dX8_dropAll_11 (by decide) (fun c11 => absurd (by decide) c11) (fun _ => ?_)
          refine zJ_aload_n dX8_dropAll_14 rfl ?_
          refine zJ_iload_n dX8_dropAll_15 rfl ?_
          refine zJ_iload_n dX8_dropAll_16 rfl ?_
          refine zP_callVi [_, _] _ lv_X8_47 (k_has (d := d - 1) hl (by omega) hs8 hn (by omega)) hs8.1 rfl (by omega) (Nat.le_of_ble_eq_true rfl) rfl dX8_dropAll_17 ?_
          refine zJ_if_eq 27 dX8_dropAll_20 (by decide) (fun _ => ?_) (fun c20 => absurd (by rw [hh]; decide) c20)
          refine zJ_iconst (v := nI 0) dX8_dropAll_27 rfl ?_
          refine zJ_istore_m 2 dX8_dropAll_28 rfl (Nat.le_of_ble_eq_true rfl) (by decide) ?_
          refine zJ_aload_n dX8_dropAll_29 rfl ?_
          refine zJ_iload_n dX8_dropAll_30 rfl ?_
          refine zJ_iload_n dX8_dropAll_31 rfl ?_
          refine zP_callVv [_, _] _ lv_X8_51 (k_X8_drop (d := d - 1) hl (by omega) hs8 hn (by omega)) hs8.1 rfl (by omega) (Nat.le_of_ble_eq_true rfl) rfl dX8_dropAll_32 ?_
          refine zJ_iinc1 dX8_dropAll_35 rfl (by decide) ?_
          refine zJ_goto 4 dX8_dropAll_38 (by decide) ?_
          exact IH
  refine zJ_iconst (v := nI 0) dX8_dropAll_0 rfl ?_
  refine zJ_istore_m 2 dX8_dropAll_1 rfl (Nat.le_of_ble_eq_true rfl) (by decide) ?_
  refine zJ_iconst (v := nI 0) dX8_dropAll_2 rfl ?_
  refine zJ_istore_m 3 dX8_dropAll_3 rfl (Nat.le_of_ble_eq_true rfl) (by decide) ?_
  exact loop 64 0 (by omega)
end ZState
