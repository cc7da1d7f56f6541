/-! ===== Arrays.fill, State's rest, Survey ===== -/
section ZSurvey
variable {l : Launch} {Xi : zXi} {d : Nat} {I : zI} {g : zG}
/-- the first N places hold v -/
def fillR (f : Nat → Int32) (v : Int32) (N : Nat) : Nat → Int32 := fun k => if k < N then v else f k
theorem fillR_succ {f : Nat → Int32} {v : Int32} {k : Nat} : upd (fillR f v k) k v = fillR f v (k + 1) := by
  funext j
  by_cases h : j = k
  · subst h; simp [upd, fillR]
  · by_cases h2 : j < k
    · simp [upd, fillR, h, h2, Nat.lt_succ_of_lt h2]
    · simp [upd, fillR, h, h2, show ¬ j < k + 1 by omega]
theorem zup_fill {I : zI} {a k : Nat} {v : Int32} : zup (va_up I a (fillR (I a) v k)) a k v = va_up I a (fillR (I a) v (k + 1)) := by
  funext b
  by_cases h : b = a
  · subst h; simp [zup, va_up, fillR_succ]
  · simp [zup, va_up, h]
theorem va_up_id {I : zI} {a : Nat} {v : Int32} : va_up I a (fillR (I a) v 0) = I := by
  funext b
  by_cases h : b = a
  · subst h; simp [va_up]; funext j; simp [fillR]
  · simp [va_up, h]
theorem k_fill (hl : l.stackTraces = false) (hd : 1 ≤ d) {a N : Nat} {v : Int32} (ha : zAr g a N) (hN : N < 2 ^ 30) : zD l Xi mJ7_fill_53178 d [.ref a, .int v] I g none (va_up I a (fillR (I a) v N)) := by
  refine zC_of hl rfl rfl rfl (Nat.le_of_ble_eq_true rfl) (zav_r ha.1 (zav_i zav_0)) ?_
  have loop : ∀ m p, p + m = N → zJ l Xi mJ7_fill_53178 d 0 0 5 [some (.ref a), some (.int v), some (.int (nI p)), some (.int (nI N))] [] (va_up I a (fillR (I a) v p), g) (fun r' h' => r' = .inl none ∧ h' = (va_up I a (fillR (I a) v N), g)) := by
    intro m
    induction m with
    | zero =>
      intro p hp
      obtain rfl : p = N := by omega
      refine zJ_iload_n dJ7_fill_53178_5 rfl ?_
      refine zJ_iload_n dJ7_fill_53178_6 rfl ?_
      refine zJ_icmp_ge 20 dJ7_fill_53178_7 (by decide) (fun _ => ?_) (fun c7 => absurd (nI_le (by omega) (by omega)) c7)
      refine zJ_vret rfl dJ7_fill_53178_20 ?_
      exact ⟨rfl, rfl⟩
    | succ m ih =>
      intro p hp
      refine zJ_iload_n dJ7_fill_53178_5 rfl ?_
      refine zJ_iload_n dJ7_fill_53178_6 rfl ?_
      refine zJ_icmp_ge 20 dJ7_fill_53178_7 (by decide) (fun c7 => absurd c7 (nI_ge (by omega) (by omega))) (fun _ => ?_)
      refine zJ_aload_n dJ7_fill_53178_10 rfl ?_
      refine zJ_iload_n dJ7_fill_53178_11 rfl ?_
      refine zJ_iload_n dJ7_fill_53178_12 rfl ?_
      refine zP_iast ha (by first | assumption | with_reducible exact vp_in_nI (by omega) (by omega) | (simp (disch := omega) only [nI_add, pk_mul, pk_sub, pk_div, pk_rem, nI_clamp]; with_reducible exact vp_in_nI (by omega) (by omega))) dJ7_fill_53178_13 ?_
      refine zJ_iinc1 dJ7_fill_53178_14 rfl (by decide) ?_
      refine zJ_goto 5 dJ7_fill_53178_17 (by decide) ?_
      refine zJ_eq rfl rfl ?_ (ih (p + 1) (by omega))
      rw [nI_clamp (by omega), zup_fill]
  refine zJ_iconst (v := nI 0) dJ7_fill_53178_0 rfl ?_
  refine zJ_istore_m 2 dJ7_fill_53178_1 rfl (Nat.le_of_ble_eq_true rfl) (by decide) ?_
  refine zJ_aload_n dJ7_fill_53178_2 rfl ?_
  refine zP_alen ha dJ7_fill_53178_3 ?_
  refine zJ_istore_m 3 dJ7_fill_53178_4 rfl (Nat.le_of_ble_eq_true rfl) (by decide) ?_
  exact zJ_eq rfl rfl (by rw [va_up_id]) (loop N 0 (by omega))
/-- whether net n's tree, in a row of ways, has p -/
def tin (w : Nat → Int32) (n p : Nat) : Bool := decide (¬ w (n * 64 + p) = -1)
theorem hasB_tin {s n p : Nat} : hasB I s n p = tin (I (s + 1)) n p := rfl
def cntF (f : Nat → Bool) : Nat → Int32 := lp (fun p a => a + if f p then 1 else 0) 0
theorem k_X8_sizeOf (hl : l.stackTraces = false) (hd : 2 ≤ d) {s n : Nat} (hst : zK g s 8 zLt_State) (hn : n < 6) : zD l Xi mX8_sizeOf d [.ref s, .int (nI n)] I g (some (.int (cntF (tin (I (s + 1)) n) 64))) I := by
  refine zC_of hl rfl rfl rfl (Nat.le_of_ble_eq_true rfl) (zav_r hst.1.1 (zav_i zav_0)) ?_
  have loop : ∀ m p, p + m = 64 → zJ l Xi mX8_sizeOf d 0 0 4 [some (.ref s), some (.int (nI n)), some (.int (cntF (tin (I (s + 1)) n) p)), some (.int (nI p))] [] (I, g) (fun r' h' => r' = .inl (some (.int (cntF (tin (I (s + 1)) n) 64))) ∧ h' = (I, g)) := by
    intro m
    induction m with
    | zero =>
      intro p hp
      obtain rfl : p = 64 := by omega
      refine zJ_iload_n dX8_sizeOf_4 rfl ?_
      refine zJ_bipush (v := nI 64) dX8_sizeOf_5 rfl ?_
      refine zJ_icmp_ge 33 dX8_sizeOf_7 (by decide) (fun _ => ?_) (fun c7 => absurd (nI_le (by omega) (by omega)) c7)
      refine zJ_iload_n dX8_sizeOf_33 rfl ?_
      refine zJ_iret rfl dX8_sizeOf_34 ?_
      exact ⟨rfl, rfl⟩
    | succ m ih =>
      intro p hp
      refine zJ_iload_n dX8_sizeOf_4 rfl ?_
      refine zJ_bipush (v := nI 64) dX8_sizeOf_5 rfl ?_
      refine zJ_icmp_ge 33 dX8_sizeOf_7 (by decide) (fun c7 => absurd c7 (nI_ge (by omega) (by omega))) (fun _ => ?_)
      refine zJ_iload_n dX8_sizeOf_10 rfl ?_
      refine zJ_aload_n dX8_sizeOf_11 rfl ?_
      refine zJ_iload_n dX8_sizeOf_12 rfl ?_
      refine zJ_iload_n dX8_sizeOf_13 rfl ?_
      refine zP_callVi [_, _] _ lv_X8_47 (k_has (d := d - 1) hl (by omega) hst hn (by omega)) hst.1 rfl (by omega) (Nat.le_of_ble_eq_true rfl) rfl dX8_sizeOf_14 ?_
      refine zJ_if_eq 24 dX8_sizeOf_17 (by decide) (fun c17 => ?_) (fun c17 => ?_)
      · replace c17 := zb0.mp c17
        refine zJ_iconst (v := nI 0) dX8_sizeOf_24 rfl ?_
        refine zJ_iadd dX8_sizeOf_25 ?_
        refine zJ_istore_m 2 dX8_sizeOf_26 rfl (Nat.le_of_ble_eq_true rfl) (by decide) ?_
        refine zJ_iinc1 dX8_sizeOf_27 rfl (by decide) ?_
        refine zJ_goto 4 dX8_sizeOf_30 (by decide) ?_
        refine zJ_eq ?_ rfl rfl (ih (p + 1) (by omega))
        rw [hasB_tin] at c17
        simp [cntF, lp, c17, nI1, nI0]
      · replace c17 := zb1.mp c17
        refine zJ_iconst (v := nI 1) dX8_sizeOf_20 rfl ?_
        refine zJ_goto 25 dX8_sizeOf_21 (by decide) ?_
        refine zJ_iadd dX8_sizeOf_25 ?_
        refine zJ_istore_m 2 dX8_sizeOf_26 rfl (Nat.le_of_ble_eq_true rfl) (by decide) ?_
        refine zJ_iinc1 dX8_sizeOf_27 rfl (by decide) ?_
        refine zJ_goto 4 dX8_sizeOf_30 (by decide) ?_
        refine zJ_eq ?_ rfl rfl (ih (p + 1) (by omega))
        rw [hasB_tin] at c17
        simp [cntF, lp, c17, nI1, nI0]
  refine zJ_iconst (v := nI 0) dX8_sizeOf_0 rfl ?_
  refine zJ_istore_m 2 dX8_sizeOf_1 rfl (Nat.le_of_ble_eq_true rfl) (by decide) ?_
  refine zJ_iconst (v := nI 0) dX8_sizeOf_2 rfl ?_
  refine zJ_istore_m 3 dX8_sizeOf_3 rfl (Nat.le_of_ble_eq_true rfl) (by decide) ?_
  exact loop 64 0 (by omega)
def cpRow (I : zI) (b a n : Nat) : zI := va_up I b (va_cpy (I a) (I b) 0 0 n)
def f_copyS (I : zI) (s t : Nat) : zI := let I5 := cpRow (cpRow (cpRow (cpRow (cpRow I (s + 1) (t + 1) 384) (s + 2) (t + 2) 64) (s + 3) (t + 3) 64) (s + 4) (t + 4) 64) (s + 5) (t + 5) 6; zup I5 s 5 (I5 t 5)
theorem k_X8_copyFrom (hl : l.stackTraces = false) (hd : 3 ≤ d) {s t : Nat} (hst : zK g s 8 zLt_State) (htt : zK g t 8 zLt_State) : zD l Xi mX8_copyFrom d [.ref s, .ref t] I g none (f_copyS I s t) := by
  refine zC_of hl rfl rfl rfl (Nat.le_of_ble_eq_true rfl) (zav_r hst.1.1 (zav_r htt.1.1 zav_0)) ?_
  refine zJ_aload_n dX8_copyFrom_0 rfl ?_
  refine zP_getr lf_X8_9 htt.1 rfl (zK_rf htt 0 0 1 384 rfl) dX8_copyFrom_1 ?_
  refine zJ_iconst (v := nI 0) dX8_copyFrom_4 rfl ?_
  refine zJ_aload_n dX8_copyFrom_5 rfl ?_
  refine zP_getr lf_X8_9 hst.1 rfl (zK_rf hst 0 0 1 384 rfl) dX8_copyFrom_6 ?_
  refine zJ_iconst (v := nI 0) dX8_copyFrom_9 rfl ?_
  refine zJ_sipush (v := nI 384) dX8_copyFrom_10 rfl ?_
  refine zP_copy lc_X8_36 (zK_ar htt 0 0 1 384 rfl) (zK_ar hst 0 0 1 384 rfl) (sp := 0) (dp := 0) (n := 384) rfl rfl rfl (by decide) (by decide) (by decide) (Nat.le_of_ble_eq_true rfl) (by omega) dX8_copyFrom_13 ?_
  refine zJ_aload_n dX8_copyFrom_16 rfl ?_
  refine zP_getr lf_X8_15 htt.1 rfl (zK_rf htt 1 1 2 64 rfl) dX8_copyFrom_17 ?_
  refine zJ_iconst (v := nI 0) dX8_copyFrom_20 rfl ?_
  refine zJ_aload_n dX8_copyFrom_21 rfl ?_
  refine zP_getr lf_X8_15 hst.1 rfl (zK_rf hst 1 1 2 64 rfl) dX8_copyFrom_22 ?_
  refine zJ_iconst (v := nI 0) dX8_copyFrom_25 rfl ?_
  refine zJ_bipush (v := nI 64) dX8_copyFrom_26 rfl ?_
  refine zP_copy lc_X8_36 (zK_ar htt 1 1 2 64 rfl) (zK_ar hst 1 1 2 64 rfl) (sp := 0) (dp := 0) (n := 64) rfl rfl rfl (by decide) (by decide) (by decide) (Nat.le_of_ble_eq_true rfl) (by omega) dX8_copyFrom_28 ?_
  refine zJ_aload_n dX8_copyFrom_31 rfl ?_
  refine zP_getr lf_X8_18 htt.1 rfl (zK_rf htt 2 2 3 64 rfl) dX8_copyFrom_32 ?_
  refine zJ_iconst (v := nI 0) dX8_copyFrom_35 rfl ?_
  refine zJ_aload_n dX8_copyFrom_36 rfl ?_
  refine zP_getr lf_X8_18 hst.1 rfl (zK_rf hst 2 2 3 64 rfl) dX8_copyFrom_37 ?_
  refine zJ_iconst (v := nI 0) dX8_copyFrom_40 rfl ?_
  refine zJ_bipush (v := nI 64) dX8_copyFrom_41 rfl ?_
  refine zP_copy lc_X8_36 (zK_ar htt 2 2 3 64 rfl) (zK_ar hst 2 2 3 64 rfl) (sp := 0) (dp := 0) (n := 64) rfl rfl rfl (by decide) (by decide) (by decide) (Nat.le_of_ble_eq_true rfl) (by omega) dX8_copyFrom_43 ?_
  refine zJ_aload_n dX8_copyFrom_46 rfl ?_
  refine zP_getr lf_X8_21 htt.1 rfl (zK_rf htt 3 3 4 64 rfl) dX8_copyFrom_47 ?_
  refine zJ_iconst (v := nI 0) dX8_copyFrom_50 rfl ?_
  refine zJ_aload_n dX8_copyFrom_51 rfl ?_
  refine zP_getr lf_X8_21 hst.1 rfl (zK_rf hst 3 3 4 64 rfl) dX8_copyFrom_52 ?_
  refine zJ_iconst (v := nI 0) dX8_copyFrom_55 rfl ?_
  refine zJ_bipush (v := nI 64) dX8_copyFrom_56 rfl ?_
  refine zP_copy lc_X8_36 (zK_ar htt 3 3 4 64 rfl) (zK_ar hst 3 3 4 64 rfl) (sp := 0) (dp := 0) (n := 64) rfl rfl rfl (by decide) (by decide) (by decide) (Nat.le_of_ble_eq_true rfl) (by omega) dX8_copyFrom_58 ?_
  refine zJ_aload_n dX8_copyFrom_61 rfl ?_
  refine zP_getr lf_X8_24 htt.1 rfl (zK_rf htt 4 4 5 6 rfl) dX8_copyFrom_62 ?_
  refine zJ_iconst (v := nI 0) dX8_copyFrom_65 rfl ?_
  refine zJ_aload_n dX8_copyFrom_66 rfl ?_
  refine zP_getr lf_X8_24 hst.1 rfl (zK_rf hst 4 4 5 6 rfl) dX8_copyFrom_67 ?_
  refine zJ_iconst (v := nI 0) dX8_copyFrom_70 rfl ?_
  refine zJ_bipush (v := nI 6) dX8_copyFrom_71 rfl ?_
  refine zP_copy lc_X8_36 (zK_ar htt 4 4 5 6 rfl) (zK_ar hst 4 4 5 6 rfl) (sp := 0) (dp := 0) (n := 6) rfl rfl rfl (by decide) (by decide) (by decide) (Nat.le_of_ble_eq_true rfl) (by omega) dX8_copyFrom_73 ?_
  refine zJ_aload_n dX8_copyFrom_76 rfl ?_
  refine zJ_aload_n dX8_copyFrom_77 rfl ?_
  refine zP_geti lf_X8_43 htt.1 rfl dX8_copyFrom_78 ?_
  refine zP_puti lf_X8_43 hst.1 rfl dX8_copyFrom_81 ?_
  refine zJ_vret rfl dX8_copyFrom_84 ?_
  exact ⟨rfl, rfl⟩
def f_start (I : zI) (s b : Nat) : zI := let I1 := va_up I (s + 1) (fillR (I (s + 1)) (-1) 384); let I2 := va_up I1 (s + 2) (fillR (I1 (s + 2)) (nI 0) 64); let I3 := va_up I2 (s + 3) (fillR (I2 (s + 3)) (nI 0) 64); zup (cpRow (cpRow I3 (s + 4) (b + 7) 64) (s + 5) (b + 1) 6) s 5 (nI 0)
theorem k_X8_start (hl : l.stackTraces = false) (hd : 3 ≤ d) {s b : Nat} (hst : zK g s 8 zLt_State) (hb : zK g b 0 zLt_Board) : zD l Xi mX8_start d [.ref s, .ref b] I g none (f_start I s b) := by
  refine zC_of hl rfl rfl rfl (Nat.le_of_ble_eq_true rfl) (zav_r hst.1.1 (zav_r hb.1.1 zav_0)) ?_
  refine zJ_aload_n dX8_start_0 rfl ?_
  refine zP_getr lf_X8_9 hst.1 rfl (zK_rf hst 0 0 1 384 rfl) dX8_start_1 ?_
  refine zJ_iconst (v := -1) dX8_start_4 rfl ?_
  refine zP_callSv [_, _] _ ls_X8_27 (k_fill (d := d - 1) hl (by omega) (hst.2 0 _ rfl).2 (by decide)) rfl (by omega) (Nat.le_of_ble_eq_true rfl) rfl dX8_start_5 ?_
  refine zJ_aload_n dX8_start_8 rfl ?_
  refine zP_getr lf_X8_15 hst.1 rfl (zK_rf hst 1 1 2 64 rfl) dX8_start_9 ?_
  refine zJ_iconst (v := nI 0) dX8_start_12 rfl ?_
  refine zP_callSv [_, _] _ ls_X8_27 (k_fill (d := d - 1) hl (by omega) (hst.2 1 _ rfl).2 (by decide)) rfl (by omega) (Nat.le_of_ble_eq_true rfl) rfl dX8_start_13 ?_
  refine zJ_aload_n dX8_start_16 rfl ?_
  refine zP_getr lf_X8_18 hst.1 rfl (zK_rf hst 2 2 3 64 rfl) dX8_start_17 ?_
  refine zJ_iconst (v := nI 0) dX8_start_20 rfl ?_
  refine zP_callSv [_, _] _ ls_X8_27 (k_fill (d := d - 1) hl (by omega) (hst.2 2 _ rfl).2 (by decide)) rfl (by omega) (Nat.le_of_ble_eq_true rfl) rfl dX8_start_21 ?_
  refine zJ_aload_n dX8_start_24 rfl ?_
  refine zP_getr lf_X8_33 hb.1 rfl (zK_rf hb 6 10 7 64 rfl) dX8_start_25 ?_
  refine zJ_iconst (v := nI 0) dX8_start_28 rfl ?_
  refine zJ_aload_n dX8_start_29 rfl ?_
  refine zP_getr lf_X8_21 hst.1 rfl (zK_rf hst 3 3 4 64 rfl) dX8_start_30 ?_
  refine zJ_iconst (v := nI 0) dX8_start_33 rfl ?_
  refine zJ_bipush (v := nI 64) dX8_start_34 rfl ?_
  refine zP_copy lc_X8_36 (zK_ar hb 6 10 7 64 rfl) (zK_ar hst 3 3 4 64 rfl) (sp := 0) (dp := 0) (n := 64) rfl rfl rfl (by decide) (by decide) (by decide) (Nat.le_of_ble_eq_true rfl) (by omega) dX8_start_36 ?_
  refine zJ_aload_n dX8_start_39 rfl ?_
  refine zP_getr lf_X8_42 hb.1 rfl (zK_rf hb 0 4 1 6 rfl) dX8_start_40 ?_
  refine zJ_iconst (v := nI 0) dX8_start_43 rfl ?_
  refine zJ_aload_n dX8_start_44 rfl ?_
  refine zP_getr lf_X8_24 hst.1 rfl (zK_rf hst 4 4 5 6 rfl) dX8_start_45 ?_
  refine zJ_iconst (v := nI 0) dX8_start_48 rfl ?_
  refine zJ_bipush (v := nI 6) dX8_start_49 rfl ?_
  refine zP_copy lc_X8_36 (zK_ar hb 0 4 1 6 rfl) (zK_ar hst 4 4 5 6 rfl) (sp := 0) (dp := 0) (n := 6) rfl rfl rfl (by decide) (by decide) (by decide) (Nat.le_of_ble_eq_true rfl) (by omega) dX8_start_51 ?_
  refine zJ_aload_n dX8_start_54 rfl ?_
  refine zJ_iconst (v := nI 0) dX8_start_55 rfl ?_
  refine zP_puti lf_X8_43 hst.1 rfl dX8_start_56 ?_
  refine zJ_vret rfl dX8_start_59 ?_
  exact ⟨rfl, rfl⟩
end ZSurvey
