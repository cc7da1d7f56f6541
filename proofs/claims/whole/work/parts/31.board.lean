/-! ===== small ones: Board, bitCount, prices, wayBack ===== -/
def insB (C R p : Nat) : Bool := decide (p % 8 < C) && decide (p / 8 < R)
section ZBoard
variable {l : Launch} {Xi : zXi} {d : Nat} {I : zI} {g : zG}
theorem k_X0_isInside (hl : l.stackTraces = false) (hd : 1 ≤ d) {b p C R : Nat} (hb : zK g b 0 zLt_Board) (hC : I b 0 = nI C) (hR : I b 1 = nI R) (hC8 : C ≤ 8) (hR8 : R ≤ 8) (hp : p < 64) : zD l Xi mX0_isInside d [.ref b, .int (nI p)] I g (some (.int (if insB C R p then 1 else 0))) I := by
  refine zC_of hl rfl rfl rfl (Nat.le_of_ble_eq_true rfl) (zav_r hb.1.1 (zav_i zav_0)) ?_
  refine zJ_iload_n dX0_isInside_0 rfl ?_
  refine zJ_bipush (v := nI 8) dX0_isInside_1 rfl ?_
  refine zJ_irem dX0_isInside_3 (by decide) ?_
  refine zJ_aload_n dX0_isInside_4 rfl ?_
  refine zP_geti lf_X0_9 hb.1 rfl dX0_isInside_5 ?_
  rw [hC, pk_rem (by omega) (by omega) (by omega)]
  refine zJ_icmp_ge 26 dX0_isInside_8 (by decide) (fun c8 => ?_) (fun c8 => ?_)
  · skip
    refine zJ_iconst (v := nI 0) dX0_isInside_26 rfl ?_
    refine zJ_zret rfl (by decide) dX0_isInside_27 ?_
    have := (nI_leI (by omega) (by omega)).mp c8
    exact ⟨by simp [insB, show ¬ p % 8 < C by omega, nI0], rfl⟩
  · skip
    refine zJ_iload_n dX0_isInside_11 rfl ?_
    refine zJ_bipush (v := nI 8) dX0_isInside_12 rfl ?_
    refine zJ_idiv dX0_isInside_14 (by decide) ?_
    refine zJ_aload_n dX0_isInside_15 rfl ?_
    refine zP_geti lf_X0_15 hb.1 rfl dX0_isInside_16 ?_
    rw [hR, pk_div (by omega) (by omega) (by omega)]
    refine zJ_icmp_ge 26 dX0_isInside_19 (by decide) (fun c19 => ?_) (fun c19 => ?_)
    · skip
      refine zJ_iconst (v := nI 0) dX0_isInside_26 rfl ?_
      refine zJ_zret rfl (by decide) dX0_isInside_27 ?_
      have := (nI_leI (by omega) (by omega)).mp c19
      exact ⟨by simp [insB, show ¬ p / 8 < R by omega, nI0], rfl⟩
    · skip
      refine zJ_iconst (v := nI 1) dX0_isInside_22 rfl ?_
      refine zJ_goto 27 dX0_isInside_23 (by decide) ?_
      refine zJ_zret rfl (by decide) dX0_isInside_27 ?_
      have h1 : p % 8 < C := Nat.not_le.mp (fun q => c8 (nI_le q (by omega)))
      have h2 : p / 8 < R := Nat.not_le.mp (fun q => c19 (nI_le q (by omega)))
      exact ⟨by simp [insB, h1, h2, nI1], rfl⟩
def bitB (x : Int32) (n : Nat) : Bool := decide (¬ (x >>> (nI n &&& 31)) &&& nI 1 = 0)
theorem k_X0_hasPin (hl : l.stackTraces = false) (hd : 1 ≤ d) {b n p : Nat} (hb : zK g b 0 zLt_Board) (hp : p < 64) : zD l Xi mX0_hasPin d [.ref b, .int (nI n), .int (nI p)] I g (some (.int (if bitB (I (b + 5) p) n then 1 else 0))) I := by
  refine zC_of hl rfl rfl rfl (Nat.le_of_ble_eq_true rfl) (zav_r hb.1.1 (zav_i (zav_i zav_0))) ?_
  refine zJ_aload_n dX0_hasPin_0 rfl ?_
  refine zP_getr lf_X0_34 hb.1 rfl (zK_rf hb 4 8 5 64 rfl) dX0_hasPin_1 ?_
  refine zJ_iload_n dX0_hasPin_4 rfl ?_
  refine zP_iald (zK_ar hb 4 8 5 64 rfl) (by first | assumption | with_reducible exact vp_in_nI (by omega) (by omega) | (simp (disch := omega) only [nI_add, pk_mul, pk_sub, pk_div, pk_rem, nI_clamp]; with_reducible exact vp_in_nI (by omega) (by omega))) dX0_hasPin_5 ?_
  refine zJ_iload_n dX0_hasPin_6 rfl ?_
  refine zJ_ishr dX0_hasPin_7 ?_
  refine zJ_iconst (v := nI 1) dX0_hasPin_8 rfl ?_
  refine zJ_iand dX0_hasPin_9 ?_
  rw [nI_clamp (by omega)]
  refine zJ_if_eq 17 dX0_hasPin_10 (by decide) (fun c10 => ?_) (fun c10 => ?_)
  · skip
    refine zJ_iconst (v := nI 0) dX0_hasPin_17 rfl ?_
    refine zJ_zret rfl (by decide) dX0_hasPin_18 ?_
    exact ⟨by simp [bitB, c10, nI0], rfl⟩
  · skip
    refine zJ_iconst (v := nI 1) dX0_hasPin_13 rfl ?_
    refine zJ_goto 18 dX0_hasPin_14 (by decide) ?_
    refine zJ_zret rfl (by decide) dX0_hasPin_18 ?_
    exact ⟨by rw [show bitB (I (b + 5) p) n = true from decide_eq_true c10]; rfl, rfl⟩
theorem k_X0_rootOf (hl : l.stackTraces = false) (hd : 1 ≤ d) {b n : Nat} (hb : zK g b 0 zLt_Board) (hn : n < 6) : zD l Xi mX0_rootOf d [.ref b, .int (nI n)] I g (some (.int (I (b + 4) (n * 4)))) I := by
  refine zC_of hl rfl rfl rfl (Nat.le_of_ble_eq_true rfl) (zav_r hb.1.1 (zav_i zav_0)) ?_
  refine zJ_aload_n dX0_rootOf_0 rfl ?_
  refine zP_getr lf_X0_31 hb.1 rfl (zK_rf hb 3 7 4 24 rfl) dX0_rootOf_1 ?_
  refine zJ_iload_n dX0_rootOf_4 rfl ?_
  refine zJ_iconst (v := nI 4) dX0_rootOf_5 rfl ?_
  refine zJ_imul dX0_rootOf_6 ?_
  refine zP_iald (zK_ar hb 3 7 4 24 rfl) (by first | assumption | with_reducible exact vp_in_nI (by omega) (by omega) | (simp (disch := omega) only [nI_add, pk_mul, pk_sub, pk_div, pk_rem, nI_clamp]; with_reducible exact vp_in_nI (by omega) (by omega))) dX0_rootOf_7 ?_
  refine zJ_iret rfl dX0_rootOf_8 ?_
  exact ⟨by simp (disch := omega) only [pk_mul, nI_clamp], rfl⟩
theorem k_X6_easeAll (hl : l.stackTraces = false) (hd : 1 ≤ d) (hs : zSt g) {s : Nat} {v : Int32} (hst : zK g s 8 zLt_State) : zEv l Xi mX6_easeAll d [.ref 43, .ref s, .int v] I g (fun I' => ∃ f, I' = va_up I (s + 3) f ∧ ∀ p, p < 64 → f p = if I (s + 3) p - v ≤ 0 then 0 else I (s + 3) p - v) := by
  refine zC_of hl rfl rfl rfl (Nat.le_of_ble_eq_true rfl) (zav_r (zSt_ob hs 43 6 rfl).1 (zav_r hst.1.1 (zav_i zav_0))) ?_
  have loop : ∀ m p, p + m = 64 → ∀ (f : Nat → Int32), ((∀ q, q < p → f q = if I (s + 3) q - v ≤ 0 then 0 else I (s + 3) q - v) ∧ ∀ q, p ≤ q → f q = I (s + 3) q) → zJ l Xi mX6_easeAll d 0 0 2 [some (.ref 43), some (.ref s), some (.int v), some (.int (nI p)), none] [] (va_up I (s + 3) f, g) (fun r' h' => r' = .inl none ∧ ∃ I', h' = (I', g) ∧ ∃ f, I' = va_up I (s + 3) f ∧ ∀ p, p < 64 → f p = if I (s + 3) p - v ≤ 0 then 0 else I (s + 3) p - v) := by
    intro m
    induction m with
    | zero =>
      intro p hp f hI
      obtain rfl : p = 64 := by omega
      refine zJ_iload_n dX6_easeAll_2 rfl ?_
      refine zJ_bipush (v := nI 64) dX6_easeAll_3 rfl ?_
      refine zJ_icmp_ge 41 dX6_easeAll_5 (by decide) (fun _ => ?_) (fun c5 => absurd (nI_le (by omega) (by omega)) c5)
      refine zJ_vret rfl dX6_easeAll_41 ?_
      exact ⟨rfl, _, rfl, f, rfl, hI.1⟩
    | succ m ih =>
      intro p hp f hI
      refine zJ_iload_n dX6_easeAll_2 rfl ?_
      refine zJ_bipush (v := nI 64) dX6_easeAll_3 rfl ?_
      refine zJ_icmp_ge 41 dX6_easeAll_5 (by decide) (fun c5 => absurd c5 (nI_ge (by omega) (by omega))) (fun _ => ?_)
      refine zJ_aload_n dX6_easeAll_8 rfl ?_
      refine zP_getr lf_X6_87 hst.1 rfl (zK_rf hst 2 2 3 64 rfl) dX6_easeAll_9 ?_
      refine zJ_iload_n dX6_easeAll_12 rfl ?_
      refine zP_iald (zK_ar hst 2 2 3 64 rfl) (by first | assumption | with_reducible exact vp_in_nI (by omega) (by omega) | (simp (disch := omega) only [nI_add, pk_mul, pk_sub, pk_div, pk_rem, nI_clamp]; with_reducible exact vp_in_nI (by omega) (by omega))) dX6_easeAll_13 ?_
      refine zJ_iload_n dX6_easeAll_14 rfl ?_
      refine zJ_isub dX6_easeAll_15 ?_
      rw [nI_clamp (by omega), va_up_same, hI.2 p (Nat.le_refl p)]
      refine zJ_istore dX6_easeAll_16 (Nat.le_of_ble_eq_true rfl) (by decide) ?_
      refine zJ_aload_n dX6_easeAll_18 rfl ?_
      refine zP_getr lf_X6_87 hst.1 rfl (zK_rf hst 2 2 3 64 rfl) dX6_easeAll_19 ?_
      refine zJ_iload_n dX6_easeAll_22 rfl ?_
      refine zJ_iload dX6_easeAll_23 rfl ?_
      refine zJ_if_le 33 dX6_easeAll_25 (by decide) (fun c25 => ?_) (fun c25 => ?_)
      · skip
        refine zJ_iconst (v := nI 0) dX6_easeAll_33 rfl ?_
        refine zP_iast (zK_ar hst 2 2 3 64 rfl) (by first | assumption | with_reducible exact vp_in_nI (by omega) (by omega) | (simp (disch := omega) only [nI_add, pk_mul, pk_sub, pk_div, pk_rem, nI_clamp]; with_reducible exact vp_in_nI (by omega) (by omega))) dX6_easeAll_34 ?_
        refine zJ_iinc1 dX6_easeAll_35 rfl (by decide) ?_
        refine zJ_goto 2 dX6_easeAll_38 (by decide) ?_
        refine zJ_back (zle_r (zle_r (zle_r (zle_r (zle_n zle_0))))) ?_ (ih (p + 1) (by omega) (upd f p 0) ⟨fun q hq => ?_, fun q hq => by rw [upd_ne (by omega)]; exact hI.2 q (by omega)⟩)
        · rw [nI_clamp (by omega), zup_va]; rfl
        · by_cases e : q = p
          · subst e; rw [upd_at, if_pos c25]
          · rw [upd_ne e]; exact hI.1 q (by omega)
      · skip
        refine zJ_iload dX6_easeAll_28 rfl ?_
        refine zJ_goto 34 dX6_easeAll_30 (by decide) ?_
        refine zP_iast (zK_ar hst 2 2 3 64 rfl) (by first | assumption | with_reducible exact vp_in_nI (by omega) (by omega) | (simp (disch := omega) only [nI_add, pk_mul, pk_sub, pk_div, pk_rem, nI_clamp]; with_reducible exact vp_in_nI (by omega) (by omega))) dX6_easeAll_34 ?_
        refine zJ_iinc1 dX6_easeAll_35 rfl (by decide) ?_
        refine zJ_goto 2 dX6_easeAll_38 (by decide) ?_
        refine zJ_back (zle_r (zle_r (zle_r (zle_r (zle_n zle_0))))) ?_ (ih (p + 1) (by omega) (upd f p (I (s + 3) p - v)) ⟨fun q hq => ?_, fun q hq => by rw [upd_ne (by omega)]; exact hI.2 q (by omega)⟩)
        · rw [nI_clamp (by omega), zup_va]
        · by_cases e : q = p
          · subst e; rw [upd_at, if_neg c25]
          · rw [upd_ne e]; exact hI.1 q (by omega)
  refine zJ_iconst (v := nI 0) dX6_easeAll_0 rfl ?_
  refine zJ_istore_m 3 dX6_easeAll_1 rfl (Nat.le_of_ble_eq_true rfl) (by decide) ?_
  refine zJ_eq rfl rfl ?_ (loop 64 0 (by omega) (I (s + 3)) ⟨fun q hq => by omega, fun q _ => rfl⟩)
  refine congrArg (fun z => (z, g)) (funext fun c => ?_)
  by_cases e : c = s + 3
  · subst e; simp [va_up]
  · simp [va_up, e]
theorem k_X6_turnWall (hl : l.stackTraces = false) (hd : 1 ≤ d) (hs : zSt g) {s p : Nat} (hst : zK g s 8 zLt_State) (hp : p < 64) : zD l Xi mX6_turnWall d [.ref 43, .ref s, .int (nI p)] I g (some (.int (if 0 < I (s + 2) p ∨ ¬ I 8 p = 0 then 0 else 1))) (if 0 < I (s + 2) p ∨ ¬ I 8 p = 0 then I else zup I (s + 4) p (nI 1 - I (s + 4) p)) := by
  refine zC_of hl rfl rfl rfl (Nat.le_of_ble_eq_true rfl) (zav_r (zSt_ob hs 43 6 rfl).1 (zav_r hst.1.1 (zav_i zav_0))) ?_
  refine zJ_aload_n dX6_turnWall_0 rfl ?_
  refine zP_getr lf_X6_90 hst.1 rfl (zK_rf hst 1 1 2 64 rfl) dX6_turnWall_1 ?_
  refine zJ_iload_n dX6_turnWall_4 rfl ?_
  refine zP_iald (zK_ar hst 1 1 2 64 rfl) (by first | assumption | with_reducible exact vp_in_nI (by omega) (by omega) | (simp (disch := omega) only [nI_add, pk_mul, pk_sub, pk_div, pk_rem, nI_clamp]; with_reducible exact vp_in_nI (by omega) (by omega))) dX6_turnWall_5 ?_
  rw [nI_clamp (by omega)]
  refine zJ_if_gt 21 dX6_turnWall_6 (by decide) (fun c6 => ?_) (fun c6 => ?_)
  · skip
    refine zJ_iconst (v := nI 0) dX6_turnWall_21 rfl ?_
    refine zJ_zret rfl (by decide) dX6_turnWall_22 ?_
    exact ⟨by simp [c6, nI0], by simp [c6]⟩
  · skip
    refine zJ_aload_n dX6_turnWall_9 rfl ?_
    refine zP_getr lf_X6_28 (zSt_ob hs 43 6 rfl) rfl (zSt_rf hs 43 0 3 rfl) dX6_turnWall_10 ?_
    refine zP_getr lf_X6_93 (zSt_ob hs 3 0 rfl) rfl (zSt_rf hs 3 8 8 rfl) dX6_turnWall_13 ?_
    refine zJ_iload_n dX6_turnWall_16 rfl ?_
    refine zP_iald (zSt_ar hs 8 64 rfl) (by first | assumption | with_reducible exact vp_in_nI (by omega) (by omega) | (simp (disch := omega) only [nI_add, pk_mul, pk_sub, pk_div, pk_rem, nI_clamp]; with_reducible exact vp_in_nI (by omega) (by omega))) dX6_turnWall_17 ?_
    rw [nI_clamp (by omega)]
    refine zJ_if_eq 23 dX6_turnWall_18 (by decide) (fun c18 => ?_) (fun c18 => ?_)
    · skip
      refine zJ_aload_n dX6_turnWall_23 rfl ?_
      refine zP_getr lf_X6_96 hst.1 rfl (zK_rf hst 3 3 4 64 rfl) dX6_turnWall_24 ?_
      refine zJ_iload_n dX6_turnWall_27 rfl ?_
      refine zJ_iconst (v := nI 1) dX6_turnWall_28 rfl ?_
      refine zJ_aload_n dX6_turnWall_29 rfl ?_
      refine zP_getr lf_X6_96 hst.1 rfl (zK_rf hst 3 3 4 64 rfl) dX6_turnWall_30 ?_
      refine zJ_iload_n dX6_turnWall_33 rfl ?_
      refine zP_iald (zK_ar hst 3 3 4 64 rfl) (by first | assumption | with_reducible exact vp_in_nI (by omega) (by omega) | (simp (disch := omega) only [nI_add, pk_mul, pk_sub, pk_div, pk_rem, nI_clamp]; with_reducible exact vp_in_nI (by omega) (by omega))) dX6_turnWall_34 ?_
      refine zJ_isub dX6_turnWall_35 ?_
      refine zP_iast (zK_ar hst 3 3 4 64 rfl) (by first | assumption | with_reducible exact vp_in_nI (by omega) (by omega) | (simp (disch := omega) only [nI_add, pk_mul, pk_sub, pk_div, pk_rem, nI_clamp]; with_reducible exact vp_in_nI (by omega) (by omega))) dX6_turnWall_36 ?_
      refine zJ_iconst (v := nI 1) dX6_turnWall_37 rfl ?_
      refine zJ_zret rfl (by decide) dX6_turnWall_38 ?_
      exact ⟨by simp [c6, c18, nI1], by rw [nI_clamp (by omega)]; simp [c6, c18]⟩
    · skip
      refine zJ_iconst (v := nI 0) dX6_turnWall_21 rfl ?_
      refine zJ_zret rfl (by decide) dX6_turnWall_22 ?_
      exact ⟨by simp [c18, nI0], by simp [c18]⟩
theorem k_X6_ripUp (hl : l.stackTraces = false) (hd : 4 ≤ d) (hs : zSt g) {s n : Nat} (hst : zK g s 8 zLt_State) (hn : n < 6) : zD l Xi mX6_ripUp d [.ref 43, .ref s, .int (nI n)] I g (some (.int (if f_anyN I s n 64 then 1 else 0))) (f_dropN I s n 64) := by
  refine zC_of hl rfl rfl rfl (Nat.le_of_ble_eq_true rfl) (zav_r (zSt_ob hs 43 6 rfl).1 (zav_r hst.1.1 (zav_i zav_0))) ?_
  refine zJ_aload_n dX6_ripUp_0 rfl ?_
  refine zJ_iload_n dX6_ripUp_1 rfl ?_
  refine zP_callVi [_] _ lv_X6_72 (k_X8_dropAll (d := d - 1) hl (by omega) hst hn) hst.1 rfl (by omega) (Nat.le_of_ble_eq_true rfl) rfl dX6_ripUp_2 ?_
  refine zJ_zret rfl zbr dX6_ripUp_5 ?_
  exact ⟨rfl, rfl⟩
theorem k_X6_wayBack (hl : l.stackTraces = false) (hd : 1 ≤ d) (hs : zSt g) (hb : bok (I 11)) {q : Nat} (hq : q < 64) : zEi l Xi mX6_wayBack d [.ref 43, .int (nI q)] I g (fun x I' => I' = I ∧ ((x = -1 ∧ ∀ v, v < 4 → ∀ e, unI (I 11 (q * 4 + v)) = some e → ¬ I 46 e = I 46 q - I 47 q) ∨ ∃ v e, v < 4 ∧ x = nI v ∧ unI (I 11 (q * 4 + v)) = some e ∧ e < 64 ∧ I 46 e = I 46 q - I 47 q ∧ ∀ v', v' < v → ∀ e', unI (I 11 (q * 4 + v')) = some e' → ¬ I 46 e' = I 46 q - I 47 q)) := by
  refine zC_of hl rfl rfl rfl (Nat.le_of_ble_eq_true rfl) (zav_r (zSt_ob hs 43 6 rfl).1 (zav_i zav_0)) ?_
  have loop : ∀ m v, v + m = 4 → (∀ v', v' < v → ∀ e', unI (I 11 (q * 4 + v')) = some e' → ¬ I 46 e' = I 46 q - I 47 q) → zJ l Xi mX6_wayBack d 0 0 2 [some (.ref 43), some (.int (nI q)), some (.int (nI v)), none] [] (I, g) (fun r' h' => ∃ x I', r' = .inl (some (.int x)) ∧ h' = (I', g) ∧ I' = I ∧ ((x = -1 ∧ ∀ v, v < 4 → ∀ e, unI (I 11 (q * 4 + v)) = some e → ¬ I 46 e = I 46 q - I 47 q) ∨ ∃ v e, v < 4 ∧ x = nI v ∧ unI (I 11 (q * 4 + v)) = some e ∧ e < 64 ∧ I 46 e = I 46 q - I 47 q ∧ ∀ v', v' < v → ∀ e', unI (I 11 (q * 4 + v')) = some e' → ¬ I 46 e' = I 46 q - I 47 q)) := by
    intro m
    induction m with
    | zero =>
      intro v hp hI
      obtain rfl : v = 4 := by omega
      refine zJ_iload_n dX6_wayBack_2 rfl ?_
      refine zJ_iconst (v := nI 4) dX6_wayBack_3 rfl ?_
      refine zJ_icmp_ge 56 dX6_wayBack_4 (by decide) (fun _ => ?_) (fun c4 => absurd (nI_le (by omega) (by omega)) c4)
      refine zJ_iconst (v := -1) dX6_wayBack_56 rfl ?_
      refine zJ_iret rfl dX6_wayBack_57 ?_
      exact ⟨_, _, rfl, rfl, rfl, Or.inl ⟨rfl, hI⟩⟩
    | succ m ih =>
      intro v hp hI
      refine zJ_iload_n dX6_wayBack_2 rfl ?_
      refine zJ_iconst (v := nI 4) dX6_wayBack_3 rfl ?_
      refine zJ_icmp_ge 56 dX6_wayBack_4 (by decide) (fun c4 => absurd c4 (nI_ge (by omega) (by omega))) (fun _ => ?_)
      refine zJ_aload_n dX6_wayBack_7 rfl ?_
      refine zP_getr lf_X6_28 (zSt_ob hs 43 6 rfl) rfl (zSt_rf hs 43 0 3 rfl) dX6_wayBack_8 ?_
      refine zP_getr lf_X6_175 (zSt_ob hs 3 0 rfl) rfl (zSt_rf hs 3 11 11 rfl) dX6_wayBack_11 ?_
      refine zJ_iload_n dX6_wayBack_14 rfl ?_
      refine zJ_iconst (v := nI 4) dX6_wayBack_15 rfl ?_
      refine zJ_imul dX6_wayBack_16 ?_
      refine zJ_iload_n dX6_wayBack_17 rfl ?_
      refine zJ_iadd dX6_wayBack_18 ?_
      refine zP_iald (zSt_ar hs 11 256 rfl) (by first | assumption | with_reducible exact vp_in_nI (by omega) (by omega) | (simp (disch := omega) only [nI_add, pk_mul, pk_sub, pk_div, pk_rem, nI_clamp]; with_reducible exact vp_in_nI (by omega) (by omega))) dX6_wayBack_19 ?_
      simp (disch := omega) only [nI_add, pk_mul, nI_clamp]
      rw [← oI_un hb (show q * 4 + v < 256 by omega)]
      refine zJ_istore_m 3 dX6_wayBack_20 rfl (Nat.le_of_ble_eq_true rfl) (by decide) ?_
      refine zJ_iload_n dX6_wayBack_21 rfl ?_
      refine zJ_iconst (v := -1) dX6_wayBack_22 rfl ?_
      refine zJ_icmp_eq 50 dX6_wayBack_23 (by decide) (fun c23 => ?_) (fun c23 => ?_)
      · skip
        refine zJ_iinc1 dX6_wayBack_50 rfl (by decide) ?_
        refine zJ_goto 2 dX6_wayBack_53 (by decide) ?_
        have hnone : unI (I 11 (q * 4 + v)) = none := by
          cases hh : unI (I 11 (q * 4 + v)) with
          | none => rfl
          | some e => rw [hh] at c23; exact absurd c23 (nI_ne1 (by have := un_lt hb (by omega) hh; omega))
        exact zJ_back (zle_r (zle_r (zle_r (zle_n zle_0)))) rfl (ih (v + 1) (by omega) (fun v' hv' e' he' => by
          by_cases h1 : v' = v
          · subst h1; rw [hnone] at he'; cases he'
          · exact hI v' (by omega) e' he'))
      · skip
        obtain ⟨e, he⟩ : ∃ e, unI (I 11 (q * 4 + v)) = some e := by cases hh : unI (I 11 (q * 4 + v)) with | none => exact absurd (by rw [hh]; rfl) c23 | some e => exact ⟨e, rfl⟩
        have he64 := un_lt hb (by omega) he
        simp only [he, oI]
        refine zJ_aload_n dX6_wayBack_26 rfl ?_
        refine zP_getr lf_X6_18 (zSt_ob hs 43 6 rfl) rfl (zSt_rf hs 43 4 46 rfl) dX6_wayBack_27 ?_
        refine zJ_iload_n dX6_wayBack_30 rfl ?_
        refine zP_iald (zSt_ar hs 46 64 rfl) (by first | assumption | with_reducible exact vp_in_nI (by omega) (by omega) | (simp (disch := omega) only [nI_add, pk_mul, pk_sub, pk_div, pk_rem, nI_clamp]; with_reducible exact vp_in_nI (by omega) (by omega))) dX6_wayBack_31 ?_
        refine zJ_aload_n dX6_wayBack_32 rfl ?_
        refine zP_getr lf_X6_18 (zSt_ob hs 43 6 rfl) rfl (zSt_rf hs 43 4 46 rfl) dX6_wayBack_33 ?_
        refine zJ_iload_n dX6_wayBack_36 rfl ?_
        refine zP_iald (zSt_ar hs 46 64 rfl) (by first | assumption | with_reducible exact vp_in_nI (by omega) (by omega) | (simp (disch := omega) only [nI_add, pk_mul, pk_sub, pk_div, pk_rem, nI_clamp]; with_reducible exact vp_in_nI (by omega) (by omega))) dX6_wayBack_37 ?_
        refine zJ_aload_n dX6_wayBack_38 rfl ?_
        refine zP_getr lf_X6_22 (zSt_ob hs 43 6 rfl) rfl (zSt_rf hs 43 5 47 rfl) dX6_wayBack_39 ?_
        refine zJ_iload_n dX6_wayBack_42 rfl ?_
        refine zP_iald (zSt_ar hs 47 64 rfl) (by first | assumption | with_reducible exact vp_in_nI (by omega) (by omega) | (simp (disch := omega) only [nI_add, pk_mul, pk_sub, pk_div, pk_rem, nI_clamp]; with_reducible exact vp_in_nI (by omega) (by omega))) dX6_wayBack_43 ?_
        refine zJ_isub dX6_wayBack_44 ?_
        simp (disch := omega) only [nI_clamp]
        refine zJ_icmp_ne 50 dX6_wayBack_45 (by decide) (fun c45 => ?_) (fun c45 => ?_)
        · skip
          refine zJ_iinc1 dX6_wayBack_50 rfl (by decide) ?_
          refine zJ_goto 2 dX6_wayBack_53 (by decide) ?_
          exact zJ_back (zle_r (zle_r (zle_r (zle_n zle_0)))) rfl (ih (v + 1) (by omega) (fun v' hv' e' he' => by
            by_cases h1 : v' = v
            · subst h1; rw [he] at he'; cases he'; exact c45
            · exact hI v' (by omega) e' he'))
        · skip
          refine zJ_iload_n dX6_wayBack_48 rfl ?_
          refine zJ_iret rfl dX6_wayBack_49 ?_
          exact ⟨_, _, rfl, rfl, rfl, Or.inr ⟨v, e, by omega, rfl, he, he64, c45, hI⟩⟩
  refine zJ_iconst (v := nI 0) dX6_wayBack_0 rfl ?_
  refine zJ_istore_m 2 dX6_wayBack_1 rfl (Nat.le_of_ble_eq_true rfl) (by decide) ?_
  exact loop 4 0 (by omega) (fun v' h => by omega)
end ZBoard
