/-! ===== Integer.bitCount, Router.priceOf ===== -/
def us_ (x : Int32) (k : Nat) : Int32 := (x.toUInt32 >>> ((nI k).toUInt32 &&& Int32.toUInt32 31)).toInt32
def bcE (x : Int32) : Int32 :=
  let a := x - (us_ x 1 &&& 1431655765)
  let b := (a &&& 858993459) + (us_ a 2 &&& 858993459)
  let c := (b + us_ b 4) &&& 252645135
  let e := c + us_ c 8
  (e + us_ e 16) &&& nI 63
def popN : Nat → Nat → Nat
  | 0, _ => 0
  | f + 1, k => k % 2 + popN f (k / 2)
theorem bcE_pop : ∀ k, k < 64 → bcE (nI k) = nI (popN 6 k) := by decide +kernel
section ZPriceOf
variable {l : Launch} {Xi : zXi} {d : Nat} {I : zI} {g : zG}
theorem k_bitCount (hl : l.stackTraces = false) (hd : 1 ≤ d) {x : Int32} : zD l Xi mJ6_bitCount_0f7a4 d [.int x] I g (some (.int (bcE x))) I := by
  refine zC_of hl rfl rfl rfl (Nat.le_of_ble_eq_true rfl) (zav_i zav_0) ?_
  refine zJ_iload_n dJ6_bitCount_0f7a4_0 rfl ?_
  refine zJ_iload_n dJ6_bitCount_0f7a4_1 rfl ?_
  refine zJ_iconst (v := nI 1) dJ6_bitCount_0f7a4_2 rfl ?_
  refine zJ_iushr dJ6_bitCount_0f7a4_3 ?_
  refine zJ_ldc_w (v := 1431655765) lk_J6_265 dJ6_bitCount_0f7a4_4 ?_
  refine zJ_iand dJ6_bitCount_0f7a4_7 ?_
  refine zJ_isub dJ6_bitCount_0f7a4_8 ?_
  refine zJ_istore_m 0 dJ6_bitCount_0f7a4_9 rfl (Nat.le_of_ble_eq_true rfl) (by decide) ?_
  refine zJ_iload_n dJ6_bitCount_0f7a4_10 rfl ?_
  refine zJ_ldc_w (v := 858993459) lk_J6_266 dJ6_bitCount_0f7a4_11 ?_
  refine zJ_iand dJ6_bitCount_0f7a4_14 ?_
  refine zJ_iload_n dJ6_bitCount_0f7a4_15 rfl ?_
  refine zJ_iconst (v := nI 2) dJ6_bitCount_0f7a4_16 rfl ?_
  refine zJ_iushr dJ6_bitCount_0f7a4_17 ?_
  refine zJ_ldc_w (v := 858993459) lk_J6_266 dJ6_bitCount_0f7a4_18 ?_
  refine zJ_iand dJ6_bitCount_0f7a4_21 ?_
  refine zJ_iadd dJ6_bitCount_0f7a4_22 ?_
  refine zJ_istore_m 0 dJ6_bitCount_0f7a4_23 rfl (Nat.le_of_ble_eq_true rfl) (by decide) ?_
  refine zJ_iload_n dJ6_bitCount_0f7a4_24 rfl ?_
  refine zJ_iload_n dJ6_bitCount_0f7a4_25 rfl ?_
  refine zJ_iconst (v := nI 4) dJ6_bitCount_0f7a4_26 rfl ?_
  refine zJ_iushr dJ6_bitCount_0f7a4_27 ?_
  refine zJ_iadd dJ6_bitCount_0f7a4_28 ?_
  refine zJ_ldc_w (v := 252645135) lk_J6_267 dJ6_bitCount_0f7a4_29 ?_
  refine zJ_iand dJ6_bitCount_0f7a4_32 ?_
  refine zJ_istore_m 0 dJ6_bitCount_0f7a4_33 rfl (Nat.le_of_ble_eq_true rfl) (by decide) ?_
  refine zJ_iload_n dJ6_bitCount_0f7a4_34 rfl ?_
  refine zJ_iload_n dJ6_bitCount_0f7a4_35 rfl ?_
  refine zJ_bipush (v := nI 8) dJ6_bitCount_0f7a4_36 rfl ?_
  refine zJ_iushr dJ6_bitCount_0f7a4_38 ?_
  refine zJ_iadd dJ6_bitCount_0f7a4_39 ?_
  refine zJ_istore_m 0 dJ6_bitCount_0f7a4_40 rfl (Nat.le_of_ble_eq_true rfl) (by decide) ?_
  refine zJ_iload_n dJ6_bitCount_0f7a4_41 rfl ?_
  refine zJ_iload_n dJ6_bitCount_0f7a4_42 rfl ?_
  refine zJ_bipush (v := nI 16) dJ6_bitCount_0f7a4_43 rfl ?_
  refine zJ_iushr dJ6_bitCount_0f7a4_45 ?_
  refine zJ_iadd dJ6_bitCount_0f7a4_46 ?_
  refine zJ_istore_m 0 dJ6_bitCount_0f7a4_47 rfl (Nat.le_of_ble_eq_true rfl) (by decide) ?_
  refine zJ_iload_n dJ6_bitCount_0f7a4_48 rfl ?_
  refine zJ_bipush (v := nI 63) dJ6_bitCount_0f7a4_49 rfl ?_
  refine zJ_iand dJ6_bitCount_0f7a4_51 ?_
  refine zJ_iret rfl dJ6_bitCount_0f7a4_52 ?_
  exact ⟨rfl, rfl⟩
/-- the names of a price -/
def nmF (I : zI) (s n p : Nat) (h : Bool) : Nat → Int32 :=
  let o := I (s + 2) p - (if h then 1 else 0) + nI 1 - I 9 p
  upd (upd (upd (upd (upd (upd (upd (upd (I 22) 0 (I (s + 3) p)) 1 (if o ≤ 0 then 0 else o)) 2 (I (s + 5) n)) 3 (I s 5)) 4 (I 9 p)) 5 (nI (p % 8))) 6 (nI (p / 8))) 7 (bcE (I 8 p &&& ((nI 1 <<< (nI n &&& 31)) ^^^ (-1))))
theorem k_X6_priceOf (hl : l.stackTraces = false) (hd : 2 ≤ d) (hs : zSt g) {s n p len : Nat} (hst : zK g s 8 zLt_State) (hsN : 60 < s) (hn : n < 6) (hp : p < 64) (hlen : I 21 3 = nI len) (hl150 : len ≤ 150) (hc : ∀ i, i < len → codeOk (I 23 i)) : zD l Xi mX6_priceOf d [.ref 43, .ref s, .int (nI n), .int (nI p)] I g (some (.int (clampL ((evalL (nmF I s n p (hasB I s n p)) (I 23) (I 24) len).2 0)))) (va_up (va_up I 22 (nmF I s n p (hasB I s n p))) 24 (evalL (nmF I s n p (hasB I s n p)) (I 23) (I 24) len).2) := by
  refine zC_of hl rfl rfl rfl (Nat.le_of_ble_eq_true rfl) (zav_r (zSt_ob hs 43 6 rfl).1 (zav_r hst.1.1 (zav_i (zav_i zav_0)))) ?_
  obtain ⟨o, ho⟩ : ∃ o, o = I (s + 2) p - (if hasB I s n p then 1 else 0) + nI 1 - I 9 p := ⟨_, rfl⟩
  have rr : ∀ f a, a ≠ 22 → va_up I 22 f a = I a := fun f a h => va_up_row h
  have h72 : ∀ v, v = (if o ≤ 0 then 0 else o) → zJ l Xi mX6_priceOf d 0 0 72 [some (.ref 43), some (.ref s), some (.int (nI n)), some (.int (nI p)), none, none, some (.ref 22)] [.int v, .int (nI 1), .ref 22] (va_up I 22 (upd (I 22) 0 (I (s + 3) p)), g) (fun r' h' => r' = .inl (some (.int (clampL ((evalL (nmF I s n p (hasB I s n p)) (I 23) (I 24) len).2 0)))) ∧ h' = (va_up (va_up I 22 (nmF I s n p (hasB I s n p))) 24 (evalL (nmF I s n p (hasB I s n p)) (I 23) (I 24) len).2, g)) := by
    intro v hv
    refine zP_iast (zSt_ar hs 22 8 rfl) (by first | assumption | with_reducible exact vp_in_nI (by omega) (by omega) | (simp (disch := omega) only [nI_add, pk_mul, pk_sub, pk_div, pk_rem, nI_clamp]; with_reducible exact vp_in_nI (by omega) (by omega))) dX6_priceOf_72 ?_
    rw [show (nI 1).toNatClampNeg = 1 from rfl, zup_va]
    refine zJ_aload dX6_priceOf_73 rfl ?_
    refine zJ_iconst (v := nI 2) dX6_priceOf_75 rfl ?_
    refine zJ_aload_n dX6_priceOf_76 rfl ?_
    refine zP_getr lf_X6_57 hst.1 rfl (zK_rf hst 4 4 5 6 rfl) dX6_priceOf_77 ?_
    refine zJ_iload_n dX6_priceOf_80 rfl ?_
    refine zP_iald (zK_ar hst 4 4 5 6 rfl) (by first | assumption | with_reducible exact vp_in_nI (by omega) (by omega) | (simp (disch := omega) only [nI_add, pk_mul, pk_sub, pk_div, pk_rem, nI_clamp]; with_reducible exact vp_in_nI (by omega) (by omega))) dX6_priceOf_81 ?_
    rw [rr _ _ (show s + 5 ≠ 22 by omega), nI_clamp (show n < 2 ^ 31 by omega)]
    refine zP_iast (zSt_ar hs 22 8 rfl) (by first | assumption | with_reducible exact vp_in_nI (by omega) (by omega) | (simp (disch := omega) only [nI_add, pk_mul, pk_sub, pk_div, pk_rem, nI_clamp]; with_reducible exact vp_in_nI (by omega) (by omega))) dX6_priceOf_82 ?_
    rw [show (nI 2).toNatClampNeg = 2 from rfl, zup_va]
    refine zJ_aload dX6_priceOf_83 rfl ?_
    refine zJ_iconst (v := nI 3) dX6_priceOf_85 rfl ?_
    refine zJ_aload_n dX6_priceOf_86 rfl ?_
    refine zP_geti lf_X6_40 hst.1 rfl dX6_priceOf_87 ?_
    rw [rr _ _ (show s ≠ 22 by omega)]
    refine zP_iast (zSt_ar hs 22 8 rfl) (by first | assumption | with_reducible exact vp_in_nI (by omega) (by omega) | (simp (disch := omega) only [nI_add, pk_mul, pk_sub, pk_div, pk_rem, nI_clamp]; with_reducible exact vp_in_nI (by omega) (by omega))) dX6_priceOf_90 ?_
    rw [show (nI 3).toNatClampNeg = 3 from rfl, zup_va]
    refine zJ_aload dX6_priceOf_91 rfl ?_
    refine zJ_iconst (v := nI 4) dX6_priceOf_93 rfl ?_
    refine zJ_aload_n dX6_priceOf_94 rfl ?_
    refine zP_getr lf_X6_28 (zSt_ob hs 43 6 rfl) rfl (zSt_rf hs 43 0 3 rfl) dX6_priceOf_95 ?_
    refine zP_getr lf_X6_187 (zSt_ob hs 3 0 rfl) rfl (zSt_rf hs 3 9 9 rfl) dX6_priceOf_98 ?_
    refine zJ_iload_n dX6_priceOf_101 rfl ?_
    refine zP_iald (zSt_ar hs 9 64 rfl) (by first | assumption | with_reducible exact vp_in_nI (by omega) (by omega) | (simp (disch := omega) only [nI_add, pk_mul, pk_sub, pk_div, pk_rem, nI_clamp]; with_reducible exact vp_in_nI (by omega) (by omega))) dX6_priceOf_102 ?_
    rw [rr _ _ (show 9 ≠ 22 by decide), nI_clamp (show p < 2 ^ 31 by omega)]
    refine zP_iast (zSt_ar hs 22 8 rfl) (by first | assumption | with_reducible exact vp_in_nI (by omega) (by omega) | (simp (disch := omega) only [nI_add, pk_mul, pk_sub, pk_div, pk_rem, nI_clamp]; with_reducible exact vp_in_nI (by omega) (by omega))) dX6_priceOf_103 ?_
    rw [show (nI 4).toNatClampNeg = 4 from rfl, zup_va]
    refine zJ_aload dX6_priceOf_104 rfl ?_
    refine zJ_iconst (v := nI 5) dX6_priceOf_106 rfl ?_
    refine zJ_iload_n dX6_priceOf_107 rfl ?_
    refine zJ_bipush (v := nI 8) dX6_priceOf_108 rfl ?_
    refine zJ_irem dX6_priceOf_110 (by decide) ?_
    rw [pk_rem (by omega) (by omega) (by omega)]
    refine zP_iast (zSt_ar hs 22 8 rfl) (by first | assumption | with_reducible exact vp_in_nI (by omega) (by omega) | (simp (disch := omega) only [nI_add, pk_mul, pk_sub, pk_div, pk_rem, nI_clamp]; with_reducible exact vp_in_nI (by omega) (by omega))) dX6_priceOf_111 ?_
    rw [show (nI 5).toNatClampNeg = 5 from rfl, zup_va]
    refine zJ_aload dX6_priceOf_112 rfl ?_
    refine zJ_bipush (v := nI 6) dX6_priceOf_114 rfl ?_
    refine zJ_iload_n dX6_priceOf_116 rfl ?_
    refine zJ_bipush (v := nI 8) dX6_priceOf_117 rfl ?_
    refine zJ_idiv dX6_priceOf_119 (by decide) ?_
    rw [pk_div (by omega) (by omega) (by omega)]
    refine zP_iast (zSt_ar hs 22 8 rfl) (by first | assumption | with_reducible exact vp_in_nI (by omega) (by omega) | (simp (disch := omega) only [nI_add, pk_mul, pk_sub, pk_div, pk_rem, nI_clamp]; with_reducible exact vp_in_nI (by omega) (by omega))) dX6_priceOf_120 ?_
    rw [show (nI 6).toNatClampNeg = 6 from rfl, zup_va]
    refine zJ_aload dX6_priceOf_121 rfl ?_
    refine zJ_bipush (v := nI 7) dX6_priceOf_123 rfl ?_
    refine zJ_aload_n dX6_priceOf_125 rfl ?_
    refine zP_getr lf_X6_28 (zSt_ob hs 43 6 rfl) rfl (zSt_rf hs 43 0 3 rfl) dX6_priceOf_126 ?_
    refine zP_getr lf_X6_93 (zSt_ob hs 3 0 rfl) rfl (zSt_rf hs 3 8 8 rfl) dX6_priceOf_129 ?_
    refine zJ_iload_n dX6_priceOf_132 rfl ?_
    refine zP_iald (zSt_ar hs 8 64 rfl) (by first | assumption | with_reducible exact vp_in_nI (by omega) (by omega) | (simp (disch := omega) only [nI_add, pk_mul, pk_sub, pk_div, pk_rem, nI_clamp]; with_reducible exact vp_in_nI (by omega) (by omega))) dX6_priceOf_133 ?_
    rw [rr _ _ (show 8 ≠ 22 by decide), nI_clamp (show p < 2 ^ 31 by omega)]
    refine zJ_iconst (v := nI 1) dX6_priceOf_134 rfl ?_
    refine zJ_iload_n dX6_priceOf_135 rfl ?_
    refine zJ_ishl dX6_priceOf_136 ?_
    refine zJ_iconst (v := -1) dX6_priceOf_137 rfl ?_
    refine zJ_ixor dX6_priceOf_138 ?_
    refine zJ_iand dX6_priceOf_139 ?_
    refine zP_callSi [_] _ ls_X6_195 (k_bitCount (d := d - 1) hl (by omega)) rfl (by omega) (Nat.le_of_ble_eq_true rfl) rfl dX6_priceOf_140 ?_
    refine zP_iast (zSt_ar hs 22 8 rfl) (by first | assumption | with_reducible exact vp_in_nI (by omega) (by omega) | (simp (disch := omega) only [nI_add, pk_mul, pk_sub, pk_div, pk_rem, nI_clamp]; with_reducible exact vp_in_nI (by omega) (by omega))) dX6_priceOf_143 ?_
    rw [show (nI 7).toNatClampNeg = 7 from rfl, zup_va]
    refine zJ_aload_n dX6_priceOf_144 rfl ?_
    refine zP_getr lf_X6_32 (zSt_ob hs 43 6 rfl) rfl (zSt_rf hs 43 1 21 rfl) dX6_priceOf_145 ?_
    refine zP_callVi [] _ lv_X6_200 (k_X5_priceNow (d := d - 1) (len := len) hl (by omega) (zSt_law hs) (by rw [rr _ _ (show 21 ≠ 22 by decide)]; exact hlen) hl150 (by rw [rr _ _ (show 21 + 2 ≠ 22 by decide)]; exact hc)) (zSt_ob hs 21 5 rfl) rfl (by omega) (Nat.le_of_ble_eq_true rfl) rfl dX6_priceOf_148 ?_
    refine zJ_iret rfl dX6_priceOf_151 ?_
    have e : nmF I s n p (hasB I s n p) = upd (upd (upd (upd (upd (upd (upd (upd (I 22) 0 (I (s + 3) p)) 1 v) 2 (I (s + 5) n)) 3 (I s 5)) 4 (I 9 p)) 5 (nI (p % 8))) 6 (nI (p / 8))) 7 (bcE (I 8 p &&& ((nI 1 <<< (nI n &&& 31)) ^^^ (-1)))) := by
      rw [hv, ho]; rfl
    rw [e]
    refine ⟨?_, ?_⟩
    · rw [va_up_same, rr _ _ (show 21 + 2 ≠ 22 by decide), rr _ _ (show 21 + 3 ≠ 22 by decide)]
    · rw [va_up_same, rr _ _ (show 21 + 2 ≠ 22 by decide), rr _ _ (show 21 + 3 ≠ 22 by decide)]
  have h20 : ∀ v, v = (if hasB I s n p then (1 : Int32) else 0) → zJ l Xi mX6_priceOf d 0 0 20 [some (.ref 43), some (.ref s), some (.int (nI n)), some (.int (nI p)), none, none, none] [.int v, .int (I (s + 2) p)] (I, g) (fun r' h' => r' = .inl (some (.int (clampL ((evalL (nmF I s n p (hasB I s n p)) (I 23) (I 24) len).2 0)))) ∧ h' = (va_up (va_up I 22 (nmF I s n p (hasB I s n p))) 24 (evalL (nmF I s n p (hasB I s n p)) (I 23) (I 24) len).2, g)) := by
    intro v hv
    refine zJ_isub dX6_priceOf_20 ?_
    refine zJ_istore dX6_priceOf_21 (Nat.le_of_ble_eq_true rfl) (by decide) ?_
    refine zJ_iload dX6_priceOf_23 rfl ?_
    refine zJ_iconst (v := nI 1) dX6_priceOf_25 rfl ?_
    refine zJ_iadd dX6_priceOf_26 ?_
    refine zJ_aload_n dX6_priceOf_27 rfl ?_
    refine zP_getr lf_X6_28 (zSt_ob hs 43 6 rfl) rfl (zSt_rf hs 43 0 3 rfl) dX6_priceOf_28 ?_
    refine zP_getr lf_X6_187 (zSt_ob hs 3 0 rfl) rfl (zSt_rf hs 3 9 9 rfl) dX6_priceOf_31 ?_
    refine zJ_iload_n dX6_priceOf_34 rfl ?_
    refine zP_iald (zSt_ar hs 9 64 rfl) (by first | assumption | with_reducible exact vp_in_nI (by omega) (by omega) | (simp (disch := omega) only [nI_add, pk_mul, pk_sub, pk_div, pk_rem, nI_clamp]; with_reducible exact vp_in_nI (by omega) (by omega))) dX6_priceOf_35 ?_
    refine zJ_isub dX6_priceOf_36 ?_
    rw [nI_clamp (show p < 2 ^ 31 by omega), hv, ← ho]
    refine zJ_istore dX6_priceOf_37 (Nat.le_of_ble_eq_true rfl) (by decide) ?_
    refine zJ_aload_n dX6_priceOf_39 rfl ?_
    refine zP_getr lf_X6_32 (zSt_ob hs 43 6 rfl) rfl (zSt_rf hs 43 1 21 rfl) dX6_priceOf_40 ?_
    refine zP_getr lf_X6_190 (zSt_ob hs 21 5 rfl) rfl (zSt_rf hs 21 0 22 rfl) dX6_priceOf_43 ?_
    refine zJ_astore dX6_priceOf_46 (Nat.le_of_ble_eq_true rfl) (by decide) ?_
    refine zJ_aload dX6_priceOf_48 rfl ?_
    refine zJ_iconst (v := nI 0) dX6_priceOf_50 rfl ?_
    refine zJ_aload_n dX6_priceOf_51 rfl ?_
    refine zP_getr lf_X6_87 hst.1 rfl (zK_rf hst 2 2 3 64 rfl) dX6_priceOf_52 ?_
    refine zJ_iload_n dX6_priceOf_55 rfl ?_
    refine zP_iald (zK_ar hst 2 2 3 64 rfl) (by first | assumption | with_reducible exact vp_in_nI (by omega) (by omega) | (simp (disch := omega) only [nI_add, pk_mul, pk_sub, pk_div, pk_rem, nI_clamp]; with_reducible exact vp_in_nI (by omega) (by omega))) dX6_priceOf_56 ?_
    rw [nI_clamp (show p < 2 ^ 31 by omega)]
    refine zP_iast (zSt_ar hs 22 8 rfl) (by first | assumption | with_reducible exact vp_in_nI (by omega) (by omega) | (simp (disch := omega) only [nI_add, pk_mul, pk_sub, pk_div, pk_rem, nI_clamp]; with_reducible exact vp_in_nI (by omega) (by omega))) dX6_priceOf_57 ?_
    refine zJ_aload dX6_priceOf_58 rfl ?_
    refine zJ_iconst (v := nI 1) dX6_priceOf_60 rfl ?_
    refine zJ_iload dX6_priceOf_61 rfl ?_
    refine zJ_if_le 71 dX6_priceOf_63 (by decide) (fun c63 => ?_) (fun c63 => ?_)
    · skip
      refine zJ_iconst (v := nI 0) dX6_priceOf_71 rfl ?_
      refine zJ_back (zle_r (zle_r (zle_r (zle_r (zle_n (zle_n (zle_r zle_0))))))) ?_ (h72 (nI 0) (by rw [if_pos c63]; rfl))
      rfl
    · skip
      refine zJ_iload dX6_priceOf_66 rfl ?_
      refine zJ_goto 72 dX6_priceOf_68 (by decide) ?_
      refine zJ_back (zle_r (zle_r (zle_r (zle_r (zle_n (zle_n (zle_r zle_0))))))) ?_ (h72 o (by rw [if_neg c63]))
      rfl
  refine zJ_aload_n dX6_priceOf_0 rfl ?_
  refine zP_getr lf_X6_90 hst.1 rfl (zK_rf hst 1 1 2 64 rfl) dX6_priceOf_1 ?_
  refine zJ_iload_n dX6_priceOf_4 rfl ?_
  refine zP_iald (zK_ar hst 1 1 2 64 rfl) (by first | assumption | with_reducible exact vp_in_nI (by omega) (by omega) | (simp (disch := omega) only [nI_add, pk_mul, pk_sub, pk_div, pk_rem, nI_clamp]; with_reducible exact vp_in_nI (by omega) (by omega))) dX6_priceOf_5 ?_
  rw [nI_clamp (show p < 2 ^ 31 by omega)]
  refine zJ_aload_n dX6_priceOf_6 rfl ?_
  refine zJ_iload_n dX6_priceOf_7 rfl ?_
  refine zJ_iload_n dX6_priceOf_8 rfl ?_
  refine zP_callVi [_, _] _ lv_X6_127 (k_has (d := d - 1) hl (by omega) hst hn hp) hst.1 rfl (by omega) (Nat.le_of_ble_eq_true rfl) rfl dX6_priceOf_9 ?_
  refine zJ_if_eq 19 dX6_priceOf_12 (by decide) (fun c12 => ?_) (fun c12 => ?_)
  · replace c12 := zb0.mp c12
    refine zJ_iconst (v := nI 0) dX6_priceOf_19 rfl ?_
    exact h20 (nI 0) (by rw [c12]; rfl)
  · replace c12 := zb1.mp c12
    refine zJ_iconst (v := nI 1) dX6_priceOf_15 rfl ?_
    refine zJ_goto 20 dX6_priceOf_16 (by decide) ?_
    exact h20 (nI 1) (by rw [c12]; rfl)
end ZPriceOf
