/-! ===== Law.priceNow, Integer.bitCount, Router.priceOf ===== -/
/-- what a deed makes of two -/
def deed (j : Nat) (x y : Int32) : Int32 := match j with
  | 0 => x + y
  | 1 => x - y
  | 2 => x * y
  | 3 => if y = 0 then 0 else x / y
  | 4 => if y = 0 then 0 else x - x / y * y
  | 5 => if y ≤ x then y else x
  | _ => if x ≤ y then y else x
/-- a code: a number, a name, a deed -/
def codeOk (c : Int32) : Prop := (∃ k, k < 1000 ∧ c = nI k) ∨ (∃ k, k < 8 ∧ c = nI (1000 + k)) ∨ ∃ j, j < 7 ∧ c = nI (2000 + j)
def stepL (nm : Nat → Int32) (c : Int32) (s : Nat × (Nat → Int32)) : Nat × (Nat → Int32) :=
  if c < nI 2000 then (if s.1 < 32 then (s.1 + 1, upd s.2 s.1 (if c < nI 1000 then c else nm (c - nI 1000).toNatClampNeg)) else s)
  else if s.1 < 2 then s else (s.1 - 1, upd s.2 (s.1 - 2) (deed (c - nI 2000).toNatClampNeg (s.2 (s.1 - 2)) (s.2 (s.1 - 1))))
def evalL (nm cs : Nat → Int32) (wt : Nat → Int32) : Nat → Nat × (Nat → Int32) := lp (fun i s => stepL nm (cs i) s) (0, wt)
def clampL (x : Int32) : Int32 := if x < nI 1 then nI 1 else if x ≤ nI 999 then x else nI 999
theorem evalL_top {nm cs wt : Nat → Int32} : ∀ {n : Nat}, (evalL nm cs wt n).1 ≤ 32
  | 0 => by simp [evalL, lp]
  | n + 1 => by
    have ih := evalL_top (nm := nm) (cs := cs) (wt := wt) (n := n)
    show (stepL nm (cs n) (evalL nm cs wt n)).1 ≤ 32
    unfold stepL
    by_cases h1 : cs n < nI 2000
    · rw [if_pos h1]
      by_cases h2 : (evalL nm cs wt n).1 < 32
      · rw [if_pos h2]; show _ + 1 ≤ 32; omega
      · rw [if_neg h2]; exact ih
    · rw [if_neg h1]
      by_cases h2 : (evalL nm cs wt n).1 < 2
      · rw [if_pos h2]; exact ih
      · rw [if_neg h2]; show _ - 1 ≤ 32; omega
theorem va_up_self2 {I : zI} {a : Nat} : va_up I a (I a) = I := by
  funext c
  by_cases e : c = a
  · subst e; simp [va_up]
  · simp [va_up, e]
section ZPrice
variable {l : Launch} {Xi : zXi} {d : Nat} {I : zI} {g : zG}
theorem k_X5_priceNow (hl : l.stackTraces = false) (hd : 1 ≤ d) {b len : Nat} (hb : zK g b 5 zLt_Law) (hlen : I b 3 = nI len) (hl150 : len ≤ 150) (hc : ∀ i, i < len → codeOk (I (b + 2) i)) : zD l Xi mX5_priceNow d [.ref b] I g (some (.int (clampL ((evalL (I (b + 1)) (I (b + 2)) (I (b + 3)) len).2 0)))) (va_up I (b + 3) (evalL (I (b + 1)) (I (b + 2)) (I (b + 3)) len).2) := by
  refine zC_of hl rfl rfl rfl (Nat.le_of_ble_eq_true rfl) (zav_r hb.1.1 zav_0) ?_
  have r0 : ∀ f, va_up I (b + 3) f b = I b := fun f => va_up_row (by omega)
  have r1 : ∀ f, va_up I (b + 3) f (b + 1) = I (b + 1) := fun f => va_up_row (by omega)
  have r2 : ∀ f, va_up I (b + 3) f (b + 2) = I (b + 2) := fun f => va_up_row (by omega)
  have loop : ∀ m p, p + m = len → ∀ (t : Nat) (f : Nat → Int32), (evalL (I (b + 1)) (I (b + 2)) (I (b + 3)) p = (t, f)) → zJ l Xi mX5_priceNow d 0 0 4 [some (.ref b), some (.int (nI t)), some (.int (nI p)), none, none, none, none] [] (va_up I (b + 3) f, g) (fun r' h' => r' = .inl (some (.int (clampL ((evalL (I (b + 1)) (I (b + 2)) (I (b + 3)) len).2 0)))) ∧ h' = (va_up I (b + 3) (evalL (I (b + 1)) (I (b + 2)) (I (b + 3)) len).2, g)) := by
    intro m
    induction m with
    | zero =>
      intro p hp t f hI
      obtain rfl : p = len := by omega
      refine zJ_iload_n dX5_priceNow_4 rfl ?_
      refine zJ_aload_n dX5_priceNow_5 rfl ?_
      refine zP_geti lf_X5_33 hb.1 rfl dX5_priceNow_6 ?_
      refine zJ_icmp_ge 255 dX5_priceNow_9 (by decide) (fun _ => ?_) (fun c9 => absurd (by rw [r0, hlen]; exact nI_le (by omega) (by omega)) c9)
      refine zJ_aload_n dX5_priceNow_255 rfl ?_
      refine zP_getr lf_X5_18 hb.1 rfl (zK_rf hb 2 2 3 32 rfl) dX5_priceNow_256 ?_
      refine zJ_iconst (v := nI 0) dX5_priceNow_259 rfl ?_
      refine zP_iald (zK_ar hb 2 2 3 32 rfl) (by first | assumption | with_reducible exact vp_in_nI (by omega) (by omega) | (simp (disch := omega) only [nI_add, pk_mul, pk_sub, pk_div, pk_rem, nI_clamp]; with_reducible exact vp_in_nI (by omega) (by omega))) dX5_priceNow_260 ?_
      refine zJ_iconst (v := nI 1) dX5_priceNow_261 rfl ?_
      rw [show (nI 0).toNatClampNeg = 0 from rfl, va_up_same]
      refine zJ_icmp_ge 269 dX5_priceNow_262 (by decide) (fun c262 => ?_) (fun c262 => ?_)
      · skip
        refine zJ_aload_n dX5_priceNow_269 rfl ?_
        refine zP_getr lf_X5_18 hb.1 rfl (zK_rf hb 2 2 3 32 rfl) dX5_priceNow_270 ?_
        refine zJ_iconst (v := nI 0) dX5_priceNow_273 rfl ?_
        refine zP_iald (zK_ar hb 2 2 3 32 rfl) (by first | assumption | with_reducible exact vp_in_nI (by omega) (by omega) | (simp (disch := omega) only [nI_add, pk_mul, pk_sub, pk_div, pk_rem, nI_clamp]; with_reducible exact vp_in_nI (by omega) (by omega))) dX5_priceNow_274 ?_
        refine zJ_sipush (v := nI 999) dX5_priceNow_275 rfl ?_
        rw [show (nI 0).toNatClampNeg = 0 from rfl, va_up_same]
        refine zJ_icmp_le 287 dX5_priceNow_278 (by decide) (fun c278 => ?_) (fun c278 => ?_)
        · skip
          refine zJ_aload_n dX5_priceNow_287 rfl ?_
          refine zP_getr lf_X5_18 hb.1 rfl (zK_rf hb 2 2 3 32 rfl) dX5_priceNow_288 ?_
          refine zJ_iconst (v := nI 0) dX5_priceNow_291 rfl ?_
          refine zP_iald (zK_ar hb 2 2 3 32 rfl) (by first | assumption | with_reducible exact vp_in_nI (by omega) (by omega) | (simp (disch := omega) only [nI_add, pk_mul, pk_sub, pk_div, pk_rem, nI_clamp]; with_reducible exact vp_in_nI (by omega) (by omega))) dX5_priceNow_292 ?_
          refine zJ_iret rfl dX5_priceNow_293 ?_
          have h2 : ¬ f 0 < nI 1 := Int32.not_lt.mpr c262
          refine ⟨?_, by rw [hI]⟩
          rw [show (nI 0).toNatClampNeg = 0 from rfl, va_up_same]
          simp only [hI, clampL, if_neg h2, if_pos c278]
        · skip
          refine zJ_sipush (v := nI 999) dX5_priceNow_281 rfl ?_
          refine zJ_goto 293 dX5_priceNow_284 (by decide) ?_
          refine zJ_iret rfl dX5_priceNow_293 ?_
          have h2 : ¬ f 0 < nI 1 := Int32.not_lt.mpr c262
          refine ⟨?_, by rw [hI]⟩
          simp only [hI, clampL, if_neg h2, if_neg c278]
      · skip
        refine zJ_iconst (v := nI 1) dX5_priceNow_265 rfl ?_
        refine zJ_goto 293 dX5_priceNow_266 (by decide) ?_
        refine zJ_iret rfl dX5_priceNow_293 ?_
        have h2 : f 0 < nI 1 := Int32.not_le.mp c262
        refine ⟨?_, by rw [hI]⟩
        simp only [hI, clampL, if_pos h2]
    | succ m ih =>
      intro p hp t f hI
      have ht32 : t ≤ 32 := by have := evalL_top (nm := I (b + 1)) (cs := I (b + 2)) (wt := I (b + 3)) (n := p); rw [hI] at this; exact this
      have hnext : evalL (I (b + 1)) (I (b + 2)) (I (b + 3)) (p + 1) = stepL (I (b + 1)) (I (b + 2) p) (t, f) := by rw [← hI]; rfl
      have hcp := hc p (by omega)
      obtain ⟨cv, hcv⟩ : ∃ cv, cv = I (b + 2) p := ⟨_, rfl⟩
      rw [← hcv] at hcp hnext
      refine zJ_iload_n dX5_priceNow_4 rfl ?_
      refine zJ_aload_n dX5_priceNow_5 rfl ?_
      refine zP_geti lf_X5_33 hb.1 rfl dX5_priceNow_6 ?_
      refine zJ_icmp_ge 255 dX5_priceNow_9 (by decide) (fun c9 => absurd c9 (by rw [r0, hlen]; exact nI_ge (by omega) (by omega))) (fun _ => ?_)
      refine zJ_aload_n dX5_priceNow_12 rfl ?_
      refine zP_getr lf_X5_15 hb.1 rfl (zK_rf hb 1 1 2 150 rfl) dX5_priceNow_13 ?_
      refine zJ_iload_n dX5_priceNow_16 rfl ?_
      refine zP_iald (zK_ar hb 1 1 2 150 rfl) (by first | assumption | with_reducible exact vp_in_nI (by omega) (by omega) | (simp (disch := omega) only [nI_add, pk_mul, pk_sub, pk_div, pk_rem, nI_clamp]; with_reducible exact vp_in_nI (by omega) (by omega))) dX5_priceNow_17 ?_
      rw [nI_clamp (by omega), r2, ← hcv]
      refine zJ_istore_m 3 dX5_priceNow_18 rfl (Nat.le_of_ble_eq_true rfl) (by decide) ?_
      refine zJ_iload_n dX5_priceNow_19 rfl ?_
      refine zJ_sipush (v := nI 2000) dX5_priceNow_20 rfl ?_
      refine zJ_icmp_ge 68 dX5_priceNow_23 (by decide) (fun c23 => ?_) (fun c23 => ?_)
      · skip
        refine zJ_iload_n dX5_priceNow_68 rfl ?_
        refine zJ_iconst (v := nI 2) dX5_priceNow_69 rfl ?_
        refine zJ_icmp_ge 76 dX5_priceNow_70 (by decide) (fun c70 => ?_) (fun c70 => ?_)
        · skip
          have hnl : ¬ cv < nI 2000 := Int32.not_lt.mpr c23
          obtain ⟨j, hj, hcj⟩ : ∃ j, j < 7 ∧ cv = nI (2000 + j) := by
            rcases hcp with ⟨k, hk, e⟩ | ⟨k, hk, e⟩ | h
            · rw [e] at c23; exact absurd ((nI_leI (by omega) (by omega)).mp c23) (by omega)
            · rw [e] at c23; exact absurd ((nI_leI (by omega) (by omega)).mp c23) (by omega)
            · exact h
          have ht2 : 2 ≤ t := (nI_leI (by omega) (by omega)).mp c70
          have hst : stepL (I (b + 1)) cv (t, f) = (t - 1, upd f (t - 2) (deed j (f (t - 2)) (f (t - 1)))) := by
            unfold stepL
            rw [if_neg hnl, if_neg (show ¬ (t, f).1 < 2 by show ¬ t < 2; omega), hcj, pk_sub (by omega), show 2000 + j - 2000 = j by omega, nI_clamp (by omega)]
          rw [hst] at hnext
          have e1 : nI t + Int32.ofInt (-1) = nI (t - 1) := by
            rw [show (Int32.ofInt (-1)) = -nI 1 from rfl, ← Int32.sub_eq_add_neg, pk_sub (by omega)]
          have e2 : nI (t - 1) - nI 1 = nI (t - 2) := by rw [pk_sub (by omega)]; congr 1
          have h239 : ∀ v, v = deed j (f (t - 2)) (f (t - 1)) → zJ l Xi mX5_priceNow d 0 0 239 [some (.ref b), some (.int (nI (t - 1))), some (.int (nI p)), none, none, none, some (.int v)] [] (va_up I (b + 3) f, g) (fun r' h' => r' = .inl (some (.int (clampL ((evalL (I (b + 1)) (I (b + 2)) (I (b + 3)) len).2 0)))) ∧ h' = (va_up I (b + 3) (evalL (I (b + 1)) (I (b + 2)) (I (b + 3)) len).2, g)) := by
            intro v hv
            refine zJ_aload_n dX5_priceNow_239 rfl ?_
            refine zP_getr lf_X5_18 hb.1 rfl (zK_rf hb 2 2 3 32 rfl) dX5_priceNow_240 ?_
            refine zJ_iload_n dX5_priceNow_243 rfl ?_
            refine zJ_iconst (v := nI 1) dX5_priceNow_244 rfl ?_
            refine zJ_isub dX5_priceNow_245 ?_
            rw [e2]
            refine zJ_iload dX5_priceNow_246 rfl ?_
            refine zP_iast (zK_ar hb 2 2 3 32 rfl) (by first | assumption | with_reducible exact vp_in_nI (by omega) (by omega) | (simp (disch := omega) only [nI_add, pk_mul, pk_sub, pk_div, pk_rem, nI_clamp]; with_reducible exact vp_in_nI (by omega) (by omega))) dX5_priceNow_248 ?_
            refine zJ_iinc1 dX5_priceNow_249 rfl (by decide) ?_
            refine zJ_goto 4 dX5_priceNow_252 (by decide) ?_
            refine zJ_back (zle_r (zle_r (zle_r (zle_n (zle_n (zle_n (zle_n zle_0))))))) ?_ (ih (p + 1) (by omega) (t - 1) (upd f (t - 2) v) (by rw [hnext, hv]))
            rw [nI_clamp (by omega), zup_va]
          subst hcj
          refine zJ_iinc dX5_priceNow_76 rfl (by decide) rfl ?_
          rw [e1]
          refine zJ_aload_n dX5_priceNow_79 rfl ?_
          refine zP_getr lf_X5_18 hb.1 rfl (zK_rf hb 2 2 3 32 rfl) dX5_priceNow_80 ?_
          refine zJ_iload_n dX5_priceNow_83 rfl ?_
          refine zJ_iconst (v := nI 1) dX5_priceNow_84 rfl ?_
          refine zJ_isub dX5_priceNow_85 ?_
          rw [e2]
          refine zP_iald (zK_ar hb 2 2 3 32 rfl) (by first | assumption | with_reducible exact vp_in_nI (by omega) (by omega) | (simp (disch := omega) only [nI_add, pk_mul, pk_sub, pk_div, pk_rem, nI_clamp]; with_reducible exact vp_in_nI (by omega) (by omega))) dX5_priceNow_86 ?_
          refine zJ_istore dX5_priceNow_87 (Nat.le_of_ble_eq_true rfl) (by decide) ?_
          refine zJ_aload_n dX5_priceNow_89 rfl ?_
          refine zP_getr lf_X5_18 hb.1 rfl (zK_rf hb 2 2 3 32 rfl) dX5_priceNow_90 ?_
          refine zJ_iload_n dX5_priceNow_93 rfl ?_
          refine zP_iald (zK_ar hb 2 2 3 32 rfl) (by first | assumption | with_reducible exact vp_in_nI (by omega) (by omega) | (simp (disch := omega) only [nI_add, pk_mul, pk_sub, pk_div, pk_rem, nI_clamp]; with_reducible exact vp_in_nI (by omega) (by omega))) dX5_priceNow_94 ?_
          refine zJ_istore dX5_priceNow_95 (Nat.le_of_ble_eq_true rfl) (by decide) ?_
          rw [nI_clamp (by omega), nI_clamp (by omega), va_up_same]
          rcases (show j = 0 ∨ j = 1 ∨ j = 2 ∨ j = 3 ∨ j = 4 ∨ j = 5 ∨ j = 6 by omega) with rfl | rfl | rfl | rfl | rfl | rfl | rfl
          · skip
            refine zJ_iload_n dX5_priceNow_97 rfl ?_
            refine zJ_tabIn 136 dX5_priceNow_98 (by decide) (by decide) rfl (by decide) ?_
            refine zJ_iload dX5_priceNow_136 rfl ?_
            refine zJ_iload dX5_priceNow_138 rfl ?_
            refine zJ_iadd dX5_priceNow_140 ?_
            refine zJ_istore dX5_priceNow_141 (Nat.le_of_ble_eq_true rfl) (by decide) ?_
            refine zJ_goto 239 dX5_priceNow_143 (by decide) ?_
            exact zJ_back (zle_r (zle_r (zle_r (zle_n (zle_n (zle_n (zle_r zle_0))))))) rfl (h239 _ rfl)
          · skip
            refine zJ_iload_n dX5_priceNow_97 rfl ?_
            refine zJ_tabIn 146 dX5_priceNow_98 (by decide) (by decide) rfl (by decide) ?_
            refine zJ_iload dX5_priceNow_146 rfl ?_
            refine zJ_iload dX5_priceNow_148 rfl ?_
            refine zJ_isub dX5_priceNow_150 ?_
            refine zJ_istore dX5_priceNow_151 (Nat.le_of_ble_eq_true rfl) (by decide) ?_
            refine zJ_goto 239 dX5_priceNow_153 (by decide) ?_
            exact zJ_back (zle_r (zle_r (zle_r (zle_n (zle_n (zle_n (zle_r zle_0))))))) rfl (h239 _ rfl)
          · skip
            refine zJ_iload_n dX5_priceNow_97 rfl ?_
            refine zJ_tabIn 156 dX5_priceNow_98 (by decide) (by decide) rfl (by decide) ?_
            refine zJ_iload dX5_priceNow_156 rfl ?_
            refine zJ_iload dX5_priceNow_158 rfl ?_
            refine zJ_imul dX5_priceNow_160 ?_
            refine zJ_istore dX5_priceNow_161 (Nat.le_of_ble_eq_true rfl) (by decide) ?_
            refine zJ_goto 239 dX5_priceNow_163 (by decide) ?_
            exact zJ_back (zle_r (zle_r (zle_r (zle_n (zle_n (zle_n (zle_r zle_0))))))) rfl (h239 _ rfl)
          · skip
            refine zJ_iload_n dX5_priceNow_97 rfl ?_
            refine zJ_tabIn 166 dX5_priceNow_98 (by decide) (by decide) rfl (by decide) ?_
            refine zJ_iload dX5_priceNow_166 rfl ?_
            refine zJ_if_ne 175 dX5_priceNow_168 (by decide) (fun c168 => ?_) (fun c168 => ?_)
            · skip
              refine zJ_iload dX5_priceNow_175 rfl ?_
              refine zJ_iload dX5_priceNow_177 rfl ?_
              refine zJ_idiv dX5_priceNow_179 c168 ?_
              refine zJ_istore dX5_priceNow_180 (Nat.le_of_ble_eq_true rfl) (by decide) ?_
              refine zJ_goto 239 dX5_priceNow_182 (by decide) ?_
              exact zJ_back (zle_r (zle_r (zle_r (zle_n (zle_n (zle_n (zle_r zle_0))))))) rfl (h239 _ (by simp only [deed, if_neg c168]))
            · skip
              refine zJ_iconst (v := nI 0) dX5_priceNow_171 rfl ?_
              refine zJ_goto 180 dX5_priceNow_172 (by decide) ?_
              refine zJ_istore dX5_priceNow_180 (Nat.le_of_ble_eq_true rfl) (by decide) ?_
              refine zJ_goto 239 dX5_priceNow_182 (by decide) ?_
              exact zJ_back (zle_r (zle_r (zle_r (zle_n (zle_n (zle_n (zle_r zle_0))))))) rfl (h239 _ (by simp only [deed, if_pos c168]; rfl))
          · skip
            refine zJ_iload_n dX5_priceNow_97 rfl ?_
            refine zJ_tabIn 185 dX5_priceNow_98 (by decide) (by decide) rfl (by decide) ?_
            refine zJ_iload dX5_priceNow_185 rfl ?_
            refine zJ_if_ne 194 dX5_priceNow_187 (by decide) (fun c187 => ?_) (fun c187 => ?_)
            · skip
              refine zJ_iload dX5_priceNow_194 rfl ?_
              refine zJ_iload dX5_priceNow_196 rfl ?_
              refine zJ_irem dX5_priceNow_198 c187 ?_
              refine zJ_istore dX5_priceNow_199 (Nat.le_of_ble_eq_true rfl) (by decide) ?_
              refine zJ_goto 239 dX5_priceNow_201 (by decide) ?_
              exact zJ_back (zle_r (zle_r (zle_r (zle_n (zle_n (zle_n (zle_r zle_0))))))) rfl (h239 _ (by simp only [deed, if_neg c187]))
            · skip
              refine zJ_iconst (v := nI 0) dX5_priceNow_190 rfl ?_
              refine zJ_goto 199 dX5_priceNow_191 (by decide) ?_
              refine zJ_istore dX5_priceNow_199 (Nat.le_of_ble_eq_true rfl) (by decide) ?_
              refine zJ_goto 239 dX5_priceNow_201 (by decide) ?_
              exact zJ_back (zle_r (zle_r (zle_r (zle_n (zle_n (zle_n (zle_r zle_0))))))) rfl (h239 _ (by simp only [deed, if_pos c187]; rfl))
          · skip
            refine zJ_iload_n dX5_priceNow_97 rfl ?_
            refine zJ_tabIn 204 dX5_priceNow_98 (by decide) (by decide) rfl (by decide) ?_
            refine zJ_iload dX5_priceNow_204 rfl ?_
            refine zJ_iload dX5_priceNow_206 rfl ?_
            refine zJ_icmp_ge 216 dX5_priceNow_208 (by decide) (fun c208 => ?_) (fun c208 => ?_)
            · skip
              refine zJ_iload dX5_priceNow_216 rfl ?_
              refine zJ_istore dX5_priceNow_218 (Nat.le_of_ble_eq_true rfl) (by decide) ?_
              refine zJ_goto 239 dX5_priceNow_220 (by decide) ?_
              exact zJ_back (zle_r (zle_r (zle_r (zle_n (zle_n (zle_n (zle_r zle_0))))))) rfl (h239 _ (by simp only [deed, if_pos c208]))
            · skip
              refine zJ_iload dX5_priceNow_211 rfl ?_
              refine zJ_goto 218 dX5_priceNow_213 (by decide) ?_
              refine zJ_istore dX5_priceNow_218 (Nat.le_of_ble_eq_true rfl) (by decide) ?_
              refine zJ_goto 239 dX5_priceNow_220 (by decide) ?_
              exact zJ_back (zle_r (zle_r (zle_r (zle_n (zle_n (zle_n (zle_r zle_0))))))) rfl (h239 _ (by simp only [deed, if_neg c208]))
          · skip
            refine zJ_iload_n dX5_priceNow_97 rfl ?_
            refine zJ_tabOut 223 dX5_priceNow_98 (Or.inr (by decide)) (by decide) ?_
            refine zJ_iload dX5_priceNow_223 rfl ?_
            refine zJ_iload dX5_priceNow_225 rfl ?_
            refine zJ_icmp_le 235 dX5_priceNow_227 (by decide) (fun c227 => ?_) (fun c227 => ?_)
            · skip
              refine zJ_iload dX5_priceNow_235 rfl ?_
              refine zJ_istore dX5_priceNow_237 (Nat.le_of_ble_eq_true rfl) (by decide) ?_
              exact zJ_back (zle_r (zle_r (zle_r (zle_n (zle_n (zle_n (zle_r zle_0))))))) rfl (h239 _ (by simp only [deed, if_pos c227]))
            · skip
              refine zJ_iload dX5_priceNow_230 rfl ?_
              refine zJ_goto 237 dX5_priceNow_232 (by decide) ?_
              refine zJ_istore dX5_priceNow_237 (Nat.le_of_ble_eq_true rfl) (by decide) ?_
              exact zJ_back (zle_r (zle_r (zle_r (zle_n (zle_n (zle_n (zle_r zle_0))))))) rfl (h239 _ (by simp only [deed, if_neg c227]))
        · skip
          refine zJ_goto 249 dX5_priceNow_73 (by decide) ?_
          have ht2 : t < 2 := Nat.not_le.mp (fun q => c70 (nI_le q (by omega)))
          have hnl : ¬ cv < nI 2000 := Int32.not_lt.mpr c23
          have hst : stepL (I (b + 1)) cv (t, f) = (t, f) := by
            unfold stepL
            rw [if_neg hnl, if_pos (show (t, f).1 < 2 from ht2)]
          refine zJ_iinc1 dX5_priceNow_249 rfl (by decide) ?_
          refine zJ_goto 4 dX5_priceNow_252 (by decide) ?_
          exact zJ_back (zle_r (zle_r (zle_r (zle_n (zle_n (zle_n (zle_n zle_0))))))) rfl (ih (p + 1) (by omega) t f (by rw [hnext, hst]))
      · skip
        refine zJ_iload_n dX5_priceNow_26 rfl ?_
        refine zJ_aload_n dX5_priceNow_27 rfl ?_
        refine zP_getr lf_X5_18 hb.1 rfl (zK_rf hb 2 2 3 32 rfl) dX5_priceNow_28 ?_
        refine zP_alen (zK_ar hb 2 2 3 32 rfl) dX5_priceNow_31 ?_
        refine zJ_icmp_ge 249 dX5_priceNow_32 (by decide) (fun c32 => ?_) (fun c32 => ?_)
        · skip
          have ht2 : 32 ≤ t := (nI_leI (by omega) (by omega)).mp c32
          have hnl : cv < nI 2000 := Int32.not_le.mp c23
          have hst : stepL (I (b + 1)) cv (t, f) = (t, f) := by
            unfold stepL
            rw [if_pos hnl, if_neg (show ¬ (t, f).1 < 32 by show ¬ t < 32; omega)]
          refine zJ_iinc1 dX5_priceNow_249 rfl (by decide) ?_
          refine zJ_goto 4 dX5_priceNow_252 (by decide) ?_
          exact zJ_back (zle_r (zle_r (zle_r (zle_n (zle_n (zle_n (zle_n zle_0))))))) rfl (ih (p + 1) (by omega) t f (by rw [hnext, hst]))
        · skip
          have ht2 : t < 32 := Nat.not_le.mp (fun q => c32 (nI_le q (by omega)))
          have hnl : cv < nI 2000 := Int32.not_le.mp c23
          have hst : stepL (I (b + 1)) cv (t, f) = (t + 1, upd f t (if cv < nI 1000 then cv else I (b + 1) (cv - nI 1000).toNatClampNeg)) := by
            unfold stepL
            rw [if_pos hnl, if_pos (show (t, f).1 < 32 from ht2)]
          refine zJ_aload_n dX5_priceNow_35 rfl ?_
          refine zP_getr lf_X5_18 hb.1 rfl (zK_rf hb 2 2 3 32 rfl) dX5_priceNow_36 ?_
          refine zJ_iload_n dX5_priceNow_39 rfl ?_
          refine zJ_iload_n dX5_priceNow_40 rfl ?_
          refine zJ_sipush (v := nI 1000) dX5_priceNow_41 rfl ?_
          refine zJ_icmp_ge 51 dX5_priceNow_44 (by decide) (fun c44 => ?_) (fun c44 => ?_)
          · skip
            obtain ⟨k, hk8, hck⟩ : ∃ k, k < 8 ∧ cv = nI (1000 + k) := by rcases hcp with ⟨k, hk, e⟩ | h | ⟨k, hk, e⟩; exact absurd ((nI_leI (by omega) (by omega)).mp (e ▸ c44)) (by omega); exact h; exact absurd ((nI_ltI (by omega) (by omega)).mp (e ▸ hnl)) (by omega)
            refine zJ_aload_n dX5_priceNow_51 rfl ?_
            refine zP_getr lf_X5_9 hb.1 rfl (zK_rf hb 0 0 1 8 rfl) dX5_priceNow_52 ?_
            refine zJ_iload_n dX5_priceNow_55 rfl ?_
            refine zJ_sipush (v := nI 1000) dX5_priceNow_56 rfl ?_
            refine zJ_isub dX5_priceNow_59 ?_
            rw [show cv - nI 1000 = nI k by rw [hck, pk_sub (by omega), Nat.add_sub_cancel_left]]
            refine zP_iald (zK_ar hb 0 0 1 8 rfl) (by first | assumption | with_reducible exact vp_in_nI (by omega) (by omega) | (simp (disch := omega) only [nI_add, pk_mul, pk_sub, pk_div, pk_rem, nI_clamp]; with_reducible exact vp_in_nI (by omega) (by omega))) dX5_priceNow_60 ?_
            refine zP_iast (zK_ar hb 2 2 3 32 rfl) (by first | assumption | with_reducible exact vp_in_nI (by omega) (by omega) | (simp (disch := omega) only [nI_add, pk_mul, pk_sub, pk_div, pk_rem, nI_clamp]; with_reducible exact vp_in_nI (by omega) (by omega))) dX5_priceNow_61 ?_
            refine zJ_iinc1 dX5_priceNow_62 rfl (by decide) ?_
            refine zJ_goto 249 dX5_priceNow_65 (by decide) ?_
            refine zJ_iinc1 dX5_priceNow_249 rfl (by decide) ?_
            refine zJ_goto 4 dX5_priceNow_252 (by decide) ?_
            have e3 : cv - nI 1000 = nI k := by rw [hck, pk_sub (by omega), Nat.add_sub_cancel_left]
            refine zJ_back (zle_r (zle_r (zle_r (zle_n (zle_n (zle_n (zle_n zle_0))))))) ?_ (ih (p + 1) (by omega) (t + 1) _ (by rw [hnext, hst]))
            rw [nI_clamp (by omega), nI_clamp (by omega), zup_va, r1, if_neg (Int32.not_lt.mpr c44), e3, nI_clamp (by omega)]
          · skip
            refine zJ_iload_n dX5_priceNow_47 rfl ?_
            refine zJ_goto 61 dX5_priceNow_48 (by decide) ?_
            refine zP_iast (zK_ar hb 2 2 3 32 rfl) (by first | assumption | with_reducible exact vp_in_nI (by omega) (by omega) | (simp (disch := omega) only [nI_add, pk_mul, pk_sub, pk_div, pk_rem, nI_clamp]; with_reducible exact vp_in_nI (by omega) (by omega))) dX5_priceNow_61 ?_
            refine zJ_iinc1 dX5_priceNow_62 rfl (by decide) ?_
            refine zJ_goto 249 dX5_priceNow_65 (by decide) ?_
            refine zJ_iinc1 dX5_priceNow_249 rfl (by decide) ?_
            refine zJ_goto 4 dX5_priceNow_252 (by decide) ?_
            refine zJ_back (zle_r (zle_r (zle_r (zle_n (zle_n (zle_n (zle_n zle_0))))))) ?_ (ih (p + 1) (by omega) (t + 1) _ (by rw [hnext, hst]))
            rw [nI_clamp (by omega), zup_va, if_pos (Int32.not_le.mp c44)]
  refine zJ_iconst (v := nI 0) dX5_priceNow_0 rfl ?_
  refine zJ_istore_m 1 dX5_priceNow_1 rfl (Nat.le_of_ble_eq_true rfl) (by decide) ?_
  refine zJ_iconst (v := nI 0) dX5_priceNow_2 rfl ?_
  refine zJ_istore_m 2 dX5_priceNow_3 rfl (Nat.le_of_ble_eq_true rfl) (by decide) ?_
  exact zJ_eq rfl rfl (by rw [va_up_self2]) (loop len 0 (by omega) 0 (I (b + 3)) rfl)
end ZPrice
