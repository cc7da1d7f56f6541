/-! ===== State: has, put, drop, sizeOf, dropAll (walks by wip/whole/walk.py) ===== -/
section ZState
variable {l : Launch} {Xi : zXi} {d : Nat} {I : zI} {g : zG}
theorem nI_lin (a b c : Nat) : nI a * (64 : Int32) + nI b = nI (a * 64 + b) := by
  rw [show (64 : Int32) = nI 64 from rfl, pk_mul, nI_add]
theorem k_X3_clear (hl : l.stackTraces = false) (hd : 1 ≤ d) {b : Nat} (hb : zK g b 3 zLt_Heap) : zD l Xi mX3_clear d [.ref b] I g none (zup I b 1 0) := by
  refine zC_of hl rfl rfl rfl (Nat.le_of_ble_eq_true rfl) (zav_r hb.1.1 zav_0) ?_
  refine zJ_aload_n dX3_clear_0 rfl ?_
  refine zJ_iconst (v := nI 0) dX3_clear_1 rfl ?_
  refine zP_puti lf_X3_15 hb.1 rfl dX3_clear_2 ?_
  refine zJ_vret rfl dX3_clear_5 ?_
  exact ⟨rfl, rfl⟩
theorem k_X3_isEmpty (hl : l.stackTraces = false) (hd : 1 ≤ d) {b : Nat} (hb : zK g b 3 zLt_Heap) : zD l Xi mX3_isEmpty d [.ref b] I g (some (.int (if I b 1 = 0 then 1 else 0))) I := by
  refine zC_of hl rfl rfl rfl (Nat.le_of_ble_eq_true rfl) (zav_r hb.1.1 zav_0) ?_
  refine zJ_aload_n dX3_isEmpty_0 rfl ?_
  refine zP_geti lf_X3_15 hb.1 rfl dX3_isEmpty_1 ?_
  refine zJ_if_ne 11 dX3_isEmpty_4 (by decide) (fun c4 => ?_) (fun c4 => ?_)
  · skip
    refine zJ_iconst (v := nI 0) dX3_isEmpty_11 rfl ?_
    refine zJ_zret rfl (by decide) dX3_isEmpty_12 ?_
    exact ⟨by rw [if_neg c4]; rfl, rfl⟩
  · skip
    refine zJ_iconst (v := nI 1) dX3_isEmpty_7 rfl ?_
    refine zJ_goto 12 dX3_isEmpty_8 (by decide) ?_
    refine zJ_zret rfl (by decide) dX3_isEmpty_12 ?_
    exact ⟨by rw [if_pos c4]; rfl, rfl⟩
/-- does net n's tree have the place p -/
def hasW (I : zI) (s n p : Nat) : Prop := ¬ I (s + 1) (n * 64 + p) = -1
theorem k_X8_has (hl : l.stackTraces = false) (hd : 1 ≤ d) {s n p : Nat} (hs8 : zK g s 8 zLt_State) (hn : n < 6) (hp : p < 64) : zD l Xi mX8_has d [.ref s, .int (nI n), .int (nI p)] I g (some (.int (if I (s + 1) (n * 64 + p) = -1 then 0 else 1))) I := by
  refine zC_of hl rfl rfl rfl (Nat.le_of_ble_eq_true rfl) (zav_r hs8.1.1 (zav_i (zav_i zav_0))) ?_
  refine zJ_aload_n dX8_has_0 rfl ?_
  refine zP_getr lf_X8_9 hs8.1 rfl (hs8.2 0 _ rfl).1 dX8_has_1 ?_
  refine zJ_iload_n dX8_has_4 rfl ?_
  refine zJ_bipush (v := nI 64) dX8_has_5 rfl ?_
  refine zJ_imul dX8_has_7 ?_
  refine zJ_iload_n dX8_has_8 rfl ?_
  refine zJ_iadd dX8_has_9 ?_
  refine zP_iald (hs8.2 0 _ rfl).2 (by first | assumption | exact vp_in_nI (by omega) (by omega) | (simp (disch := omega) only [nI_add, pk_mul, pk_sub, pk_div, pk_rem, nI_clamp]; exact vp_in_nI (by omega) (by omega))) dX8_has_10 ?_
  refine zJ_iconst (v := -1) dX8_has_11 rfl ?_
  refine zJ_icmp_eq 19 dX8_has_12 (by decide) (fun c12 => ?_) (fun c12 => ?_)
  · skip
    refine zJ_iconst (v := nI 0) dX8_has_19 rfl ?_
    refine zJ_zret rfl (by decide) dX8_has_20 ?_
    simp (disch := omega) only [nI_add, pk_mul, nI_clamp] at c12
    exact ⟨by rw [if_pos c12]; rfl, rfl⟩
  · skip
    refine zJ_iconst (v := nI 1) dX8_has_15 rfl ?_
    refine zJ_goto 20 dX8_has_16 (by decide) ?_
    refine zJ_zret rfl (by decide) dX8_has_20 ?_
    simp (disch := omega) only [nI_add, pk_mul, nI_clamp] at c12
    exact ⟨by rw [if_neg c12]; rfl, rfl⟩
end ZState
