/-! ===== the reference: prices of places, distances lessened over and over ===== -/
section ZRefC
variable {l : Launch} {Xi : zXi} {d : Nat} {I : zI} {g : zG}
theorem rL_of {J : zI} {b : zWo} (hb : bln b ≤ 150) (h : rL I b) (e0 : J 74 20 = I 74 20) (e : ∀ a, 111 ≤ a → a ≤ 270 → J a = I a) : rL J b := by
  rcases h with ⟨h1, h2, h3⟩ | ⟨h1, h2, h3⟩
  · exact Or.inl ⟨e0.trans h1, h2, h3⟩
  · exact Or.inr ⟨h1, e0.trans h2, fun i hi => by rw [e (110 + 1 + i) (by omega) (by omega)]; exact h3 i hi⟩
theorem rB_of {J : zI} {b : zWo} (h : rB I b) (e0 : J 74 20 = I 74 20) (e : ∀ a, a = 78 ∨ a = 81 ∨ (90 ≤ a ∧ a ≤ 95) ∨ (104 ≤ a ∧ a ≤ 109) ∨ (111 ≤ a ∧ a ≤ 270) → J a = I a) : rB J b := by
  obtain ⟨h1, h2, h3, h4, h5, h6⟩ := h
  have hN := h1.2.2.2.2.1
  refine ⟨h1, ?_, fun p hp => ?_, fun n hn => ?_, fun n i hn hi => ?_, rL_of h1.2.2.2.2.2.2.2.2.2.1 h6 e0 (fun a q1 q2 => e a (by omega))⟩
  · rw [e 78 (by omega)]; exact h2
  · rw [e 81 (by omega)]; exact h3 p hp
  · rw [e (89 + 1 + n) (by omega)]; exact h4 n hn
  · rw [e (103 + 1 + n) (by omega)]; exact h5 n i hn hi
theorem rRow_of {J : zI} {a : Nat} {b : zWo} {R : rwT} (h : rRow I a b R) (e : J a = I a) : rRow J a b R := by
  unfold rRow at *
  rw [e]; exact h
theorem m_costBy (hl : l.stackTraces = false) (hd : 4 ≤ d) (hs : zSt g) {b : zWo} (hlw : lawOk (bcs b) (bln b)) (hL : rL I b) {nm : Nat → Int32} {a0 a1 a2 a3 a4 a5 a6 a7 : Int32} (h0 : a0 = nm 0) (h1 : a1 = nm 1) (h2 : a2 = nm 2) (h3 : a3 = nm 3) (h4 : a4 = nm 4) (h5 : a5 = nm 5) (h6 : a6 = nm 6) (h7 : a7 = nm 7) : zEi l Xi mX13_costBy d [.ref 74, .int a0, .int a1, .int a2, .int a3, .int a4, .int a5, .int a6, .int a7] I g (fun v J => v = lawV b nm ∧ ∀ a, a ≠ 450 → a ≠ 451 → J a = I a) := by
  refine zC_of hl rfl rfl rfl (Nat.le_of_ble_eq_true rfl) (zav_r (zSt_ob hs 74 13 rfl).1 (zav_i (zav_i (zav_i (zav_i (zav_i (zav_i (zav_i (zav_i zav_0))))))))) ?_
  refine zJ_aload_n dX13_costBy_0 rfl ?_
  refine zP_getr lf_X13_64 (zSt_ob hs 74 13 rfl) rfl (zSt_rf hs 74 27 451 rfl) dX13_costBy_1 ?_
  refine zJ_iconst (v := nI 0) dX13_costBy_4 rfl ?_
  refine zJ_iload_n dX13_costBy_5 rfl ?_
  refine zP_iast (zSt_ar hs 451 8 rfl) (by first | assumption | with_reducible exact vp_in_nI (by omega) (by omega) | (simp (disch := omega) only [nI_add, pk_mul, pk_sub, pk_div, pk_rem, nI_clamp]; with_reducible exact vp_in_nI (by omega) (by omega))) dX13_costBy_6 ?_
  refine zJ_aload_n dX13_costBy_7 rfl ?_
  refine zP_getr lf_X13_64 (zSt_ob hs 74 13 rfl) rfl (zSt_rf hs 74 27 451 rfl) dX13_costBy_8 ?_
  refine zJ_iconst (v := nI 1) dX13_costBy_11 rfl ?_
  refine zJ_iload_n dX13_costBy_12 rfl ?_
  refine zP_iast (zSt_ar hs 451 8 rfl) (by first | assumption | with_reducible exact vp_in_nI (by omega) (by omega) | (simp (disch := omega) only [nI_add, pk_mul, pk_sub, pk_div, pk_rem, nI_clamp]; with_reducible exact vp_in_nI (by omega) (by omega))) dX13_costBy_13 ?_
  refine zJ_aload_n dX13_costBy_14 rfl ?_
  refine zP_getr lf_X13_64 (zSt_ob hs 74 13 rfl) rfl (zSt_rf hs 74 27 451 rfl) dX13_costBy_15 ?_
  refine zJ_iconst (v := nI 2) dX13_costBy_18 rfl ?_
  refine zJ_iload_n dX13_costBy_19 rfl ?_
  refine zP_iast (zSt_ar hs 451 8 rfl) (by first | assumption | with_reducible exact vp_in_nI (by omega) (by omega) | (simp (disch := omega) only [nI_add, pk_mul, pk_sub, pk_div, pk_rem, nI_clamp]; with_reducible exact vp_in_nI (by omega) (by omega))) dX13_costBy_20 ?_
  refine zJ_aload_n dX13_costBy_21 rfl ?_
  refine zP_getr lf_X13_64 (zSt_ob hs 74 13 rfl) rfl (zSt_rf hs 74 27 451 rfl) dX13_costBy_22 ?_
  refine zJ_iconst (v := nI 3) dX13_costBy_25 rfl ?_
  refine zJ_iload dX13_costBy_26 rfl ?_
  refine zP_iast (zSt_ar hs 451 8 rfl) (by first | assumption | with_reducible exact vp_in_nI (by omega) (by omega) | (simp (disch := omega) only [nI_add, pk_mul, pk_sub, pk_div, pk_rem, nI_clamp]; with_reducible exact vp_in_nI (by omega) (by omega))) dX13_costBy_28 ?_
  refine zJ_aload_n dX13_costBy_29 rfl ?_
  refine zP_getr lf_X13_64 (zSt_ob hs 74 13 rfl) rfl (zSt_rf hs 74 27 451 rfl) dX13_costBy_30 ?_
  refine zJ_iconst (v := nI 4) dX13_costBy_33 rfl ?_
  refine zJ_iload dX13_costBy_34 rfl ?_
  refine zP_iast (zSt_ar hs 451 8 rfl) (by first | assumption | with_reducible exact vp_in_nI (by omega) (by omega) | (simp (disch := omega) only [nI_add, pk_mul, pk_sub, pk_div, pk_rem, nI_clamp]; with_reducible exact vp_in_nI (by omega) (by omega))) dX13_costBy_36 ?_
  refine zJ_aload_n dX13_costBy_37 rfl ?_
  refine zP_getr lf_X13_64 (zSt_ob hs 74 13 rfl) rfl (zSt_rf hs 74 27 451 rfl) dX13_costBy_38 ?_
  refine zJ_iconst (v := nI 5) dX13_costBy_41 rfl ?_
  refine zJ_iload dX13_costBy_42 rfl ?_
  refine zP_iast (zSt_ar hs 451 8 rfl) (by first | assumption | with_reducible exact vp_in_nI (by omega) (by omega) | (simp (disch := omega) only [nI_add, pk_mul, pk_sub, pk_div, pk_rem, nI_clamp]; with_reducible exact vp_in_nI (by omega) (by omega))) dX13_costBy_44 ?_
  refine zJ_aload_n dX13_costBy_45 rfl ?_
  refine zP_getr lf_X13_64 (zSt_ob hs 74 13 rfl) rfl (zSt_rf hs 74 27 451 rfl) dX13_costBy_46 ?_
  refine zJ_bipush (v := nI 6) dX13_costBy_49 rfl ?_
  refine zJ_iload dX13_costBy_51 rfl ?_
  refine zP_iast (zSt_ar hs 451 8 rfl) (by first | assumption | with_reducible exact vp_in_nI (by omega) (by omega) | (simp (disch := omega) only [nI_add, pk_mul, pk_sub, pk_div, pk_rem, nI_clamp]; with_reducible exact vp_in_nI (by omega) (by omega))) dX13_costBy_53 ?_
  refine zJ_aload_n dX13_costBy_54 rfl ?_
  refine zP_getr lf_X13_64 (zSt_ob hs 74 13 rfl) rfl (zSt_rf hs 74 27 451 rfl) dX13_costBy_55 ?_
  refine zJ_bipush (v := nI 7) dX13_costBy_58 rfl ?_
  refine zJ_iload dX13_costBy_60 rfl ?_
  refine zP_iast (zSt_ar hs 451 8 rfl) (by first | assumption | with_reducible exact vp_in_nI (by omega) (by omega) | (simp (disch := omega) only [nI_add, pk_mul, pk_sub, pk_div, pk_rem, nI_clamp]; with_reducible exact vp_in_nI (by omega) (by omega))) dX13_costBy_62 ?_
  simp (disch := omega) only [nI_clamp]
  obtain ⟨J, hJ⟩ : ∃ J, zup (zup (zup (zup (zup (zup (zup (zup I 451 0 a0) 451 1 a1) 451 2 a2) 451 3 a3) 451 4 a4) 451 5 a5) 451 6 a6) 451 7 a7 = J := ⟨_, rfl⟩
  rw [hJ]
  have e : ∀ a, a ≠ 451 → J a = I a := fun a ha => by rw [← hJ, zup_row ha, zup_row ha, zup_row ha, zup_row ha, zup_row ha, zup_row ha, zup_row ha, zup_row ha]
  have hk : ∀ k, k < 8 → J 451 k = nm k := fun k hk => by
    have : k = 0 ∨ k = 1 ∨ k = 2 ∨ k = 3 ∨ k = 4 ∨ k = 5 ∨ k = 6 ∨ k = 7 := by omega
    rw [← hJ]
    rcases this with rfl | rfl | rfl | rfl | rfl | rfl | rfl | rfl <;> simp [zup, upd, va_up, *]
  have hL2 : rL J b := rL_of hlw.1 hL (by rw [e 74 (by decide)]) (fun a q1 q2 => e a (by omega))
  refine zJ_aload_n dX13_costBy_63 rfl ?_
  refine zP_ecallVi [] _ lv_X13_298 (k_byLaw (d := d - 1) hl (by omega) hs hlw hL2 hk) (zSt_ob hs 74 13 rfl) rfl (by omega) (Nat.le_of_ble_eq_true rfl) rfl dX13_costBy_64 (fun x K hK => ?_)
  refine zJ_iret rfl dX13_costBy_67 ?_
  exact ⟨_, _, rfl, rfl, hK.1, fun a q1 q2 => (hK.2 a q1).trans (e a q2)⟩
theorem r_oth {a n : Nat} {b : zWo} {R : rwT} (hb : bdOk b) (h : rRow I a b R) (hok : okR b R) {p : Nat} (hp : p < 64) : cB (fun m => tin (I a) m p && decide (m ≠ n)) (bN b) = oth R n p := by
  have hN := hb.2.2.2.2.1
  rw [cB_congr (f' := fun m => tin R m p && decide (m ≠ n)) (fun m hm => by rw [r_tin h (by omega) hp])]
  unfold oth
  have : ∀ k, bN b + k ≤ 6 → cB (fun m => tin R m p && decide (m ≠ n)) (bN b + k) = cB (fun m => tin R m p && decide (m ≠ n)) (bN b) := by
    intro k
    induction k with
    | zero => intro _; rfl
    | succ k ih =>
      intro hk
      rw [show bN b + (k + 1) = (bN b + k) + 1 from rfl]
      simp only [cB]
      rw [ih (by omega)]
      simp [hok.2.1 (bN b + k) p (by omega) hp (Or.inl (by omega))]
  rw [← this (6 - bN b) (by omega), show bN b + (6 - bN b) = 6 by omega]
theorem m_costOf (hl : l.stackTraces = false) (hd : 5 ≤ d) (hs : zSt g) {b : zWo} {R : rwT} (hB : rB I b) {a n p : Nat} (ha : zAr g a 519) (hR : rRow I a b R) (hok : okR b R) (hn : n < bN b) (hp : p < 64) : zEi l Xi mX13_costOf d [.ref 74, .ref a, .int (nI n), .int (nI p)] I g (fun v J => v = lawV b (nmM b R n p) ∧ ∀ a, a ≠ 450 → a ≠ 451 → J a = I a) := by
  refine zC_of hl rfl rfl rfl (Nat.le_of_ble_eq_true rfl) (zav_r (zSt_ob hs 74 13 rfl).1 (zav_r ha.1 (zav_i (zav_i zav_0)))) ?_
  have hN6 := hB.1.2.2.2.2.1
  have hw := hB.1.2.2.2.2.2.2.2.2.1 p hp
  have ho : oth R n p ≤ 6 := cB_le
  refine zJ_iconst (v := nI 1) dX13_costOf_0 rfl ?_
  refine zJ_iload_n dX13_costOf_1 rfl ?_
  refine zJ_ishl dX13_costOf_2 ?_
  refine zJ_iconst (v := -1) dX13_costOf_3 rfl ?_
  refine zJ_ixor dX13_costOf_4 ?_
  refine zJ_istore dX13_costOf_5 (Nat.le_of_ble_eq_true rfl) (by decide) ?_
  refine zJ_aload_n dX13_costOf_7 rfl ?_
  refine zJ_aload_n dX13_costOf_8 rfl ?_
  refine zJ_sipush (v := nI 384) dX13_costOf_9 rfl ?_
  refine zJ_iload_n dX13_costOf_12 rfl ?_
  refine zJ_iadd dX13_costOf_13 ?_
  rw [nI_add]
  refine zP_iald ha (by first | assumption | with_reducible exact vp_in_nI (by omega) (by omega) | (simp (disch := omega) only [nI_add, pk_mul, pk_sub, pk_div, pk_rem, nI_clamp]; with_reducible exact vp_in_nI (by omega) (by omega))) dX13_costOf_14 ?_
  rw [nI_clamp (by omega), hR.1 _ (by omega)]
  refine zJ_iconst (v := nI 0) dX13_costOf_15 rfl ?_
  refine zJ_aload_n dX13_costOf_16 rfl ?_
  refine zJ_aload_n dX13_costOf_17 rfl ?_
  refine zJ_iload_n dX13_costOf_18 rfl ?_
  refine zP_callVi [_, _] _ lv_X13_291 (k_users (d := d - 1) hl (by omega) hs hB ha hp) (zSt_ob hs 74 13 rfl) rfl (by omega) (Nat.le_of_ble_eq_true rfl) rfl dX13_costOf_19 ?_
  refine zJ_iload dX13_costOf_22 rfl ?_
  refine zJ_iand dX13_costOf_24 ?_
  refine zP_callSi [_] _ ls_X13_295 (k_ones (d := d - 1) hl (by omega)) rfl (by omega) (Nat.le_of_ble_eq_true rfl) rfl dX13_costOf_25 ?_
  rw [on_oth (by omega) hN6, r_oth hB.1 hR hok hp]
  refine zJ_iconst (v := nI 1) dX13_costOf_28 rfl ?_
  refine zJ_iadd dX13_costOf_29 ?_
  rw [nI_add]
  refine zJ_aload_n dX13_costOf_30 rfl ?_
  refine zP_getr lf_X13_32 (zSt_ob hs 74 13 rfl) rfl (zSt_rf hs 74 15 81 rfl) dX13_costOf_31 ?_
  refine zJ_iload_n dX13_costOf_34 rfl ?_
  refine zP_iald (zSt_ar hs 81 64 rfl) (by first | assumption | with_reducible exact vp_in_nI (by omega) (by omega) | (simp (disch := omega) only [nI_add, pk_mul, pk_sub, pk_div, pk_rem, nI_clamp]; with_reducible exact vp_in_nI (by omega) (by omega))) dX13_costOf_35 ?_
  rw [nI_clamp (by omega), hB.2.2.1 p hp]
  refine zJ_isub dX13_costOf_36 ?_
  refine zP_callSi [_, _] _ ls_X13_262 (k_more (d := d - 1) hl (by omega)) rfl (by omega) (Nat.le_of_ble_eq_true rfl) rfl dX13_costOf_37 ?_
  rw [morI0 (by omega) (by omega)]
  refine zJ_aload_n dX13_costOf_40 rfl ?_
  refine zJ_sipush (v := nI 512) dX13_costOf_41 rfl ?_
  refine zJ_iload_n dX13_costOf_44 rfl ?_
  refine zJ_iadd dX13_costOf_45 ?_
  rw [nI_add]
  refine zP_iald ha (by first | assumption | with_reducible exact vp_in_nI (by omega) (by omega) | (simp (disch := omega) only [nI_add, pk_mul, pk_sub, pk_div, pk_rem, nI_clamp]; with_reducible exact vp_in_nI (by omega) (by omega))) dX13_costOf_46 ?_
  rw [nI_clamp (by omega), hR.2.1 n hn]
  refine zJ_aload_n dX13_costOf_47 rfl ?_
  refine zJ_sipush (v := nI 518) dX13_costOf_48 rfl ?_
  refine zP_iald ha (by first | assumption | with_reducible exact vp_in_nI (by omega) (by omega) | (simp (disch := omega) only [nI_add, pk_mul, pk_sub, pk_div, pk_rem, nI_clamp]; with_reducible exact vp_in_nI (by omega) (by omega))) dX13_costOf_51 ?_
  rw [nI_clamp (by omega), hR.2.2]
  refine zJ_aload_n dX13_costOf_52 rfl ?_
  refine zP_getr lf_X13_32 (zSt_ob hs 74 13 rfl) rfl (zSt_rf hs 74 15 81 rfl) dX13_costOf_53 ?_
  refine zJ_iload_n dX13_costOf_56 rfl ?_
  refine zP_iald (zSt_ar hs 81 64 rfl) (by first | assumption | with_reducible exact vp_in_nI (by omega) (by omega) | (simp (disch := omega) only [nI_add, pk_mul, pk_sub, pk_div, pk_rem, nI_clamp]; with_reducible exact vp_in_nI (by omega) (by omega))) dX13_costOf_57 ?_
  rw [nI_clamp (by omega), hB.2.2.1 p hp]
  refine zJ_iload_n dX13_costOf_58 rfl ?_
  refine zJ_bipush (v := nI 8) dX13_costOf_59 rfl ?_
  refine zJ_irem dX13_costOf_61 (by decide) ?_
  rw [pk_rem (by omega) (by omega) (by omega)]
  refine zJ_iload_n dX13_costOf_62 rfl ?_
  refine zJ_bipush (v := nI 8) dX13_costOf_63 rfl ?_
  refine zJ_idiv dX13_costOf_65 (by decide) ?_
  rw [pk_div (by omega) (by omega) (by omega)]
  refine zJ_aload_n dX13_costOf_66 rfl ?_
  refine zJ_iload_n dX13_costOf_67 rfl ?_
  refine zP_callVi [_] _ lv_X13_209 (k_pinned (d := d - 1) hl (by omega) hs hB hp) (zSt_ob hs 74 13 rfl) rfl (by omega) (Nat.le_of_ble_eq_true rfl) rfl dX13_costOf_68 ?_
  refine zJ_iload dX13_costOf_71 rfl ?_
  refine zJ_iand dX13_costOf_73 ?_
  refine zP_callSi [_] _ ls_X13_295 (k_ones (d := d - 1) hl (by omega)) rfl (by omega) (Nat.le_of_ble_eq_true rfl) rfl dX13_costOf_74 ?_
  rw [on_oth (by omega) hN6]
  refine zP_ecallVi [_, _, _, _, _, _, _, _] _ lv_X13_301 (m_costBy (nm := nmM b R n p) (d := d - 1) hl (by omega) hs hB.1.2.2.2.2.2.2.2.2.2 hB.2.2.2.2.2 rfl rfl rfl rfl rfl rfl rfl rfl) (zSt_ob hs 74 13 rfl) rfl (by omega) (Nat.le_of_ble_eq_true rfl) rfl dX13_costOf_77 (fun x J h => ?_)
  refine zJ_iret rfl dX13_costOf_80 ?_
  exact ⟨_, _, rfl, rfl, h.1, h.2⟩
/-! a search that lessens -/
def smN (f : Nat → Nat) : Nat → Nat
  | 0 => 0
  | n + 1 => smN f n + f n
theorem smN_congr {f f' : Nat → Nat} : ∀ {n : Nat}, (∀ k, k < n → f' k = f k) → smN f' n = smN f n
  | 0, _ => rfl
  | n + 1, h => by simp only [smN]; rw [smN_congr (fun k hk => h k (by omega)), h n (by omega)]
theorem smN_lt {f f' : Nat → Nat} {p : Nat} : ∀ {n : Nat}, p < n → (∀ k, k ≠ p → f' k = f k) → f' p < f p → smN f' n < smN f n
  | 0, h, _, _ => by omega
  | n + 1, h, h1, h2 => by
    simp only [smN]
    by_cases e : p = n
    · subst e
      rw [smN_congr (fun k hk => h1 k (by omega))]; omega
    · have := smN_lt (n := n) (by omega) h1 h2
      rw [h1 n (fun z => e z.symm)]; omega
def muF (F : Nat → Option Nat) : Nat := smN (fun p => (F p).getD 100000) 64
def bfK (b : zWo) (T wl : Nat → Bool) (c : Nat → Nat) (F : Nat → Option Nat) : Prop := (∀ p, p < 64 → T p = true → F p = some 0) ∧ (∀ p, p < 64 → T p = false → (wl p = true ∨ insM b p = false) → F p = none) ∧ (∀ p v, p < 64 → T p = false → F p = some v → ∃ e x, e < 64 ∧ adM b e p ∧ F e = some x ∧ x + c p ≤ v) ∧ ∀ p v, p < 64 → F p = some v → v ≤ 999 * cB (fun q => (F q).isSome) 64
def bfC (b : zWo) (c : Nat → Nat) (F : Nat → Option Nat) (p v : Nat) : Prop := ∀ e x, nbr b p v = some e → F e = some x → ∃ u, F p = some u ∧ u ≤ x + c p
theorem cB_up1 {f f' : Nat → Bool} {p : Nat} : ∀ {n : Nat}, p < n → (∀ k, k ≠ p → f' k = f k) → f p = false → f' p = true → cB f' n = cB f n + 1
  | 0, h, _, _, _ => by omega
  | n + 1, h, h1, h2, h3 => by
    simp only [cB]
    by_cases e : p = n
    · subst e
      rw [cB_congr (f := f') (f' := f) (fun k hk => h1 k (by omega))]
      simp [h2, h3]
    · have := cB_up1 (n := n) (by omega) h1 h2 h3
      have hn := h1 n (fun z => e z.symm)
      simp only [hn, this]
      omega
theorem bf_step {b : zWo} {T wl : Nat → Bool} {c : Nat → Nat} {F : Nat → Option Nat} {p e x : Nat} (hp : p < 64) (he : e < 64) (hc1 : 1 ≤ c p) (hc : c p ≤ 999) (hT : T p = false) (hw : wl p = false) (hi : insM b p = true) (had : adM b e p) (hx : F e = some x) (hlt : ∀ u, F p = some u → x + c p < u) (h : bfK b T wl c F) : bfK b T wl c (setO F p (x + c p)) ∧ muF (setO F p (x + c p)) < muF F ∧ x + c p ≤ 63936 := by
  obtain ⟨h1, h2, h3, h4⟩ := h
  have hne : e ≠ p := fun z => by subst z; have := hlt x hx; omega
  have s1 : setO F p (x + c p) p = some (x + c p) := by simp [setO]
  have s2 : ∀ q, q ≠ p → setO F p (x + c p) q = F q := fun q hq => by simp [setO, hq]
  have h64 : cB (fun q => (setO F p (x + c p) q).isSome) 64 ≤ 64 := cB_le
  have hcnt : x + c p ≤ 999 * cB (fun q => (setO F p (x + c p) q).isSome) 64 ∧ cB (fun q => (F q).isSome) 64 ≤ cB (fun q => (setO F p (x + c p) q).isSome) 64 := by
    have hx4 := h4 e x he hx
    cases eF : F p with
    | none =>
      have := cB_up1 (f := fun q => (F q).isSome) (f' := fun q => (setO F p (x + c p) q).isSome) (p := p) (n := 64) hp (fun k hk => by rw [s2 k hk]) (by simp [eF]) (by simp [s1])
      rw [this]; omega
    | some u =>
      have e2 : cB (fun q => (setO F p (x + c p) q).isSome) 64 = cB (fun q => (F q).isSome) 64 := cB_congr (fun k hk => by
        by_cases z : k = p
        · subst z; rw [s1, eF]; rfl
        · rw [s2 k z])
      rw [e2]
      have := h4 p u hp eF
      have := hlt u eF
      omega
  refine ⟨⟨fun q hq hTq => ?_, fun q hq hTq hwq => ?_, fun q v hq hTq hv => ?_, fun q v hq hv => ?_⟩, ?_, by omega⟩
  · rw [s2 q (fun z => by subst z; rw [hT] at hTq; cases hTq)]; exact h1 q hq hTq
  · rw [s2 q (fun z => by subst z; rcases hwq with z | z; · rw [hw] at z; cases z
                          · rw [hi] at z; cases z)]; exact h2 q hq hTq hwq
  · by_cases z : q = p
    · subst z
      rw [s1] at hv; cases hv
      exact ⟨e, x, he, had, by rw [s2 e hne]; exact hx, Nat.le_refl _⟩
    · rw [s2 q z] at hv
      obtain ⟨e', x', k1, k2, k3, k4⟩ := h3 q v hq hTq hv
      by_cases z2 : e' = p
      · subst z2
        have := hlt x' k3
        exact ⟨e', x + c e', k1, k2, s1, by omega⟩
      · exact ⟨e', x', k1, k2, by rw [s2 e' z2]; exact k3, k4⟩
  · by_cases z : q = p
    · subst z
      rw [s1] at hv; cases hv
      exact hcnt.1
    · rw [s2 q z] at hv
      have := h4 q v hq hv
      omega
  · refine smN_lt hp (fun k hk => by rw [s2 k hk]) ?_
    rw [s1]
    cases eF : F p with
    | none => show x + c p < 100000; omega
    | some u => exact hlt u eF
theorem bf_end {b : zWo} {T wl : Nat → Bool} {c : Nat → Nat} {F : Nat → Option Nat} (hb : bdOk b) (h : bfK b T wl c F) (hTi : ∀ p, p < 64 → T p = true → insM b p = true) (hcl : ∀ p, p < 64 → T p = false → wl p = false → insM b p = true → ∀ v, v < 4 → bfC b c F p v) : FPd T wl (adM b) c F := by
  obtain ⟨h1, h2, h3, h4⟩ := h
  refine fun p hp => ⟨h1 p hp, fun hT hw => h2 p hp hT (Or.inl hw), fun hT hw => ⟨fun e x he had hx => ?_, fun v hv => ?_⟩⟩
  · obtain ⟨w, hw4, hnb⟩ := had
    have hie : insM b e = true := by
      cases z : insM b e with
      | true => rfl
      | false =>
        cases hTe : T e with
        | true => rw [hTi e he hTe] at z; cases z
        | false => rw [h2 e he hTe (Or.inr z)] at hx; cases hx
    exact hcl p hp hT hw (nbr_ins hb hie hnb) ((w + 2) % 4) (by omega) e x (nbr_sym hb hie hw4 hnb) hx
  · obtain ⟨e, x, he, had, hx, hle⟩ := h3 p v hp hT hv
    refine ⟨e, x, he, had, hx, ?_⟩
    obtain ⟨w, hw4, hnb⟩ := had
    have hie : insM b e = true := by
      cases z : insM b e with
      | true => rfl
      | false =>
        cases hTe : T e with
        | true => rw [hTi e he hTe] at z; cases z
        | false => rw [h2 e he hTe (Or.inr z)] at hx; cases hx
    obtain ⟨u, hu, hule⟩ := hcl p hp hT hw (nbr_ins hb hie hnb) ((w + 2) % 4) (by omega) e x (nbr_sym hb hie hw4 hnb) hx
    rw [hv] at hu; cases hu
    omega
end ZRefC
