/-! ===== Board: clear, keepPins, findBeside ===== -/
section ZFin
variable {l : Launch} {Xi : zXi} {d : Nat} {I : zI} {g : zG}
/-- only what belongs to the board b changes -/
def fO (b : Nat) (I J : zI) : Prop := ∀ a, (a < b ∨ b + 8 < a) → J a = I a
theorem fO_rfl {b : Nat} : fO b I I := fun _ _ => rfl
theorem fO_trans {b : Nat} {J K : zI} (h : fO b I J) (h2 : fO b J K) : fO b I K := fun a q => (h2 a q).trans (h a q)
theorem k_clear (hl : l.stackTraces = false) (hd : 2 ≤ d) {b : Nat} (hb : zK g b 0 zLt_Board) : zEv l Xi mX0_clear d [.ref b] I g (fun J => fO b I J ∧ cRb J b rb0) := by
  refine zC_of hl rfl rfl rfl (Nat.le_of_ble_eq_true rfl) (zav_r hb.1.1 zav_0) ?_
  refine zJ_aload_n dX0_clear_0 rfl ?_
  refine zJ_iconst (v := nI 4) dX0_clear_1 rfl ?_
  refine zP_puti lf_X0_9 hb.1 rfl dX0_clear_2 ?_
  refine zJ_aload_n dX0_clear_5 rfl ?_
  refine zJ_iconst (v := nI 4) dX0_clear_6 rfl ?_
  refine zP_puti lf_X0_15 hb.1 rfl dX0_clear_7 ?_
  refine zJ_aload_n dX0_clear_10 rfl ?_
  refine zJ_iconst (v := nI 0) dX0_clear_11 rfl ?_
  refine zP_puti lf_X0_52 hb.1 rfl dX0_clear_12 ?_
  refine zJ_aload_n dX0_clear_15 rfl ?_
  refine zJ_iconst (v := nI 1) dX0_clear_16 rfl ?_
  refine zP_puti lf_X0_18 hb.1 rfl dX0_clear_17 ?_
  refine zJ_aload_n dX0_clear_20 rfl ?_
  refine zP_getr lf_X0_28 hb.1 rfl (zK_rf hb 2 6 3 6 rfl) dX0_clear_21 ?_
  refine zJ_iconst (v := nI 0) dX0_clear_24 rfl ?_
  refine zP_callSv [_, _] _ ls_X0_74 (k_fill (d := d - 1) hl (by omega) (zK_ar hb 2 6 3 6 rfl) (by decide)) rfl (by omega) (Nat.le_of_ble_eq_true rfl) rfl dX0_clear_25 ?_
  refine zJ_aload_n dX0_clear_28 rfl ?_
  refine zP_getr lf_X0_34 hb.1 rfl (zK_rf hb 4 8 5 64 rfl) dX0_clear_29 ?_
  refine zJ_iconst (v := nI 0) dX0_clear_32 rfl ?_
  refine zP_callSv [_, _] _ ls_X0_74 (k_fill (d := d - 1) hl (by omega) (zK_ar hb 4 8 5 64 rfl) (by decide)) rfl (by omega) (Nat.le_of_ble_eq_true rfl) rfl dX0_clear_33 ?_
  refine zJ_aload_n dX0_clear_36 rfl ?_
  refine zP_getr lf_X0_37 hb.1 rfl (zK_rf hb 5 9 6 64 rfl) dX0_clear_37 ?_
  refine zJ_iconst (v := nI 1) dX0_clear_40 rfl ?_
  refine zP_callSv [_, _] _ ls_X0_74 (k_fill (d := d - 1) hl (by omega) (zK_ar hb 5 9 6 64 rfl) (by decide)) rfl (by omega) (Nat.le_of_ble_eq_true rfl) rfl dX0_clear_41 ?_
  refine zJ_aload_n dX0_clear_44 rfl ?_
  refine zP_getr lf_X0_40 hb.1 rfl (zK_rf hb 6 10 7 64 rfl) dX0_clear_45 ?_
  refine zJ_iconst (v := nI 0) dX0_clear_48 rfl ?_
  refine zP_callSv [_, _] _ ls_X0_74 (k_fill (d := d - 1) hl (by omega) (zK_ar hb 6 10 7 64 rfl) (by decide)) rfl (by omega) (Nat.le_of_ble_eq_true rfl) rfl dX0_clear_49 ?_
  refine zJ_vret rfl dX0_clear_52 ?_
  refine ⟨rfl, _, rfl, fun a ha => ?_, ⟨?_, ?_, ?_, ?_⟩, fun n hn => absurd hn (Nat.not_lt_zero _), fun n hn => ?_, fun n i _ hi => absurd hi (Nat.not_lt_zero _), fun p hp => ?_, fun p hp => ?_, fun p hp => ?_⟩
  · rw [va_up_row (by omega), va_up_row (by omega), va_up_row (by omega), va_up_row (by omega), zup_row (by omega), zup_row (by omega), zup_row (by omega), zup_row (by omega)]
  · rw [va_up_row (by omega), va_up_row (by omega), va_up_row (by omega), va_up_row (by omega)]; simp [zup_same, upd, rC, rb0]
  · rw [va_up_row (by omega), va_up_row (by omega), va_up_row (by omega), va_up_row (by omega)]; simp [zup_same, upd, rR, rb0]
  · rw [va_up_row (by omega), va_up_row (by omega), va_up_row (by omega), va_up_row (by omega)]; simp [zup_same, upd, rN, rb0]
  · rw [va_up_row (by omega), va_up_row (by omega), va_up_row (by omega), va_up_row (by omega)]; simp [zup_same, upd, rG, rb0]
  · rw [va_up_row (by omega), va_up_row (by omega), va_up_row (by omega), va_up_same]; exact if_pos hn
  · rw [va_up_row (by omega), va_up_same]; exact if_pos hp
  · rw [va_up_same]; exact if_pos hp
  · rw [va_up_row (by omega), va_up_row (by omega), va_up_same]; exact if_pos hp
def kpL (C R : Nat) (pn : Nat → Nat) : Nat → List Nat
  | 0 => []
  | i + 1 => if insB C R (pn i) && !((kpL C R pn i).contains (pn i)) then kpL C R pn i ++ [pn i] else kpL C R pn i
theorem kpL_len {C R : Nat} {pn : Nat → Nat} : ∀ {i : Nat}, (kpL C R pn i).length ≤ i
  | 0 => Nat.le_refl _
  | i + 1 => by
    have := kpL_len (C := C) (R := R) (pn := pn) (i := i)
    simp only [kpL]
    split
    · rw [List.length_append, List.length_singleton]; omega
    · omega
def kpF (F : Nat → Bool) (n : Nat) (l : List Nat) (p : Nat) (m : Nat) : Bool := if m = n then l.contains p else F m
theorem bitF_0 {F : Nat → Bool} {n p : Nat} : bitF (kpF F n [] p) (n + 1) = bitF F n := by
  rw [bitF_succ, show kpF F n [] p n = false by simp [kpF]]
  simp only [Bool.false_eq_true, if_false, Int32.or_zero]
  exact bitF_congr (fun k hk => by unfold kpF; rw [if_neg (by omega)])
theorem bitF_1 {F : Nat → Bool} {n p q : Nat} {l : List Nat} (h : l.contains q = false) : bitF (kpF F n (l ++ [q]) p) (n + 1) = if p = q then bitF (kpF F n l p) (n + 1) ||| (nI 1 <<< (nI n &&& 31)) else bitF (kpF F n l p) (n + 1) := by
  rw [bitF_succ, bitF_succ, bitF_congr (f := kpF F n (l ++ [q]) p) (f' := kpF F n l p) (fun k hk => by unfold kpF; rw [if_neg (by omega), if_neg (by omega)])]
  by_cases e : p = q
  · subst e
    rw [if_pos rfl, show kpF F n l p n = false by simp only [kpF, if_true]; exact h, show kpF F n (l ++ [p]) p n = true by simp [kpF]]
    simp only [Bool.false_eq_true, if_false, Int32.or_zero, if_true]
  · rw [if_neg e, show kpF F n (l ++ [q]) p n = kpF F n l p n by simp [kpF, e]]
theorem k_keepPins (hl : l.stackTraces = false) (hd : 2 ≤ d) {b n C R pc : Nat} {pn : Nat → Nat} {F : Nat → Nat → Bool} (hb : zK g b 0 zLt_Board) (hn : n < 6) (hC : I b 0 = nI C) (hR : I b 1 = nI R) (hC8 : C ≤ 8) (hR8 : R ≤ 8) (hpc : I (b + 3) n = nI pc) (hpc4 : pc ≤ 4) (hpn : ∀ i, i < pc → I (b + 4) (n * 4 + i) = nI (pn i) ∧ pn i < 64) (hF : ∀ p, p < 64 → I (b + 5) p = bitF (F p) n) :
    zEv l Xi mX0_keepPins d [.ref b, .int (nI n)] I g (fun J => (∀ a, a ≠ b + 3 → a ≠ b + 4 → a ≠ b + 5 → J a = I a) ∧ J (b + 3) = upd (I (b + 3)) n (nI (kpL C R pn pc).length) ∧ (∀ j, (j < n * 4 ∨ n * 4 + 4 ≤ j) → J (b + 4) j = I (b + 4) j) ∧ (∀ j, j < (kpL C R pn pc).length → J (b + 4) (n * 4 + j) = nI ((kpL C R pn pc).getD j 0)) ∧ ∀ p, p < 64 → J (b + 5) p = bitF (kpF (F p) n (kpL C R pn pc) p) (n + 1)) := by
  refine zC_of hl rfl rfl rfl (Nat.le_of_ble_eq_true rfl) (zav_r hb.1.1 (zav_i zav_0)) ?_
  have loop : ∀ m i, i + m = pc → ∀ (J : zI), ((∀ a, a ≠ b + 4 → a ≠ b + 5 → J a = I a) ∧ (∀ j, (j < n * 4 ∨ n * 4 + 4 ≤ j) → J (b + 4) j = I (b + 4) j) ∧ (∀ j, i ≤ j → j < pc → J (b + 4) (n * 4 + j) = nI (pn j)) ∧ (∀ j, j < (kpL C R pn i).length → J (b + 4) (n * 4 + j) = nI ((kpL C R pn i).getD j 0)) ∧ ∀ p, p < 64 → J (b + 5) p = bitF (kpF (F p) n (kpL C R pn i) p) (n + 1)) → zJ l Xi mX0_keepPins d 0 0 12 [some (.ref b), some (.int (nI n)), some (.int (nI pc)), some (.int (nI (kpL C R pn i).length)), some (.int (nI i)), none] [] (J, g) (fun r' h' => r' = .inl none ∧ ∃ J, h' = (J, g) ∧ (∀ a, a ≠ b + 3 → a ≠ b + 4 → a ≠ b + 5 → J a = I a) ∧ J (b + 3) = upd (I (b + 3)) n (nI (kpL C R pn pc).length) ∧ (∀ j, (j < n * 4 ∨ n * 4 + 4 ≤ j) → J (b + 4) j = I (b + 4) j) ∧ (∀ j, j < (kpL C R pn pc).length → J (b + 4) (n * 4 + j) = nI ((kpL C R pn pc).getD j 0)) ∧ ∀ p, p < 64 → J (b + 5) p = bitF (kpF (F p) n (kpL C R pn pc) p) (n + 1)) := by
    intro m
    induction m with
    | zero =>
      intro i hp J hI
      obtain rfl : i = pc := by omega
      refine zJ_iload dX0_keepPins_12 rfl ?_
      refine zJ_iload_n dX0_keepPins_14 rfl ?_
      refine zJ_icmp_ge 84 dX0_keepPins_15 (by decide) (fun _ => ?_) (fun c15 => absurd (nI_le (by omega) (by omega)) c15)
      refine zJ_aload_n dX0_keepPins_84 rfl ?_
      refine zP_getr lf_X0_28 hb.1 rfl (zK_rf hb 2 6 3 6 rfl) dX0_keepPins_85 ?_
      refine zJ_iload_n dX0_keepPins_88 rfl ?_
      refine zJ_iload_n dX0_keepPins_89 rfl ?_
      refine zP_iast (zK_ar hb 2 6 3 6 rfl) (by first | assumption | with_reducible exact vp_in_nI (by omega) (by omega) | (simp (disch := omega) only [nI_add, pk_mul, pk_sub, pk_div, pk_rem, nI_clamp]; with_reducible exact vp_in_nI (by omega) (by omega))) dX0_keepPins_90 ?_
      refine zJ_vret rfl dX0_keepPins_91 ?_
      obtain ⟨h1, h2, h3, h4, h5⟩ := hI
      refine ⟨rfl, _, rfl, fun a p q r => by rw [zup_row p]; exact h1 a q r, ?_, fun j hj => by rw [zup_row (by omega)]; exact h2 j hj, fun j hj => by rw [zup_row (by omega)]; exact h4 j hj, fun p hp => by rw [zup_row (by omega)]; exact h5 p hp⟩
      rw [zup_same, nI_clamp (by omega), h1 (b + 3) (by omega) (by omega)]
    | succ m ih =>
      intro i hp J hI
      obtain ⟨h1, h2, h3, h4, h5⟩ := hI
      have hlen := kpL_len (C := C) (R := R) (pn := pn) (i := i)
      have hpi := (hpn i (by omega)).2
      refine zJ_iload dX0_keepPins_12 rfl ?_
      refine zJ_iload_n dX0_keepPins_14 rfl ?_
      refine zJ_icmp_ge 84 dX0_keepPins_15 (by decide) (fun c15 => absurd c15 (nI_ge (by omega) (by omega))) (fun _ => ?_)
      refine zJ_aload_n dX0_keepPins_18 rfl ?_
      refine zP_getr lf_X0_31 hb.1 rfl (zK_rf hb 3 7 4 24 rfl) dX0_keepPins_19 ?_
      refine zJ_iload_n dX0_keepPins_22 rfl ?_
      refine zJ_iconst (v := nI 4) dX0_keepPins_23 rfl ?_
      refine zJ_imul dX0_keepPins_24 ?_
      refine zJ_iload dX0_keepPins_25 rfl ?_
      refine zJ_iadd dX0_keepPins_27 ?_
      refine zP_iald (zK_ar hb 3 7 4 24 rfl) (by first | assumption | with_reducible exact vp_in_nI (by omega) (by omega) | (simp (disch := omega) only [nI_add, pk_mul, pk_sub, pk_div, pk_rem, nI_clamp]; with_reducible exact vp_in_nI (by omega) (by omega))) dX0_keepPins_28 ?_
      rw [pk_mul, nI_add, nI_clamp (by omega), h3 i (Nat.le_refl _) (by omega)]
      refine zJ_istore dX0_keepPins_29 (Nat.le_of_ble_eq_true rfl) (by decide) ?_
      refine zJ_aload_n dX0_keepPins_31 rfl ?_
      refine zJ_iload dX0_keepPins_32 rfl ?_
      refine zP_callVi [_] _ lv_X0_131 (k_X0_isInside (d := d - 1) hl (by omega) hb (by rw [h1 b (by omega) (by omega)]; exact hC) (by rw [h1 b (by omega) (by omega)]; exact hR) hC8 hR8 hpi) hb.1 rfl (by omega) (Nat.le_of_ble_eq_true rfl) rfl dX0_keepPins_34 ?_
      refine zJ_if_eq 78 dX0_keepPins_37 (by decide) (fun c37 => ?_) (fun c37 => ?_)
      · replace c37 := zb0.mp c37
        refine zJ_iinc1 dX0_keepPins_78 rfl (by decide) ?_
        refine zJ_goto 12 dX0_keepPins_81 (by decide) ?_
        have hk : kpL C R pn (i + 1) = kpL C R pn i := by simp only [kpL]; rw [if_neg (by rw [c37]; simp)]
        refine ih (i + 1) (by omega) J ⟨h1, h2, fun j a c => h3 j (by omega) c, by rw [hk]; exact h4, by rw [hk]; exact h5⟩ |> zJ_back (zle_r (zle_r (zle_r (zle_i (by rw [hk]) (zle_r (zle_n zle_0)))))) rfl
      · replace c37 := zb1.mp c37
        refine zJ_aload_n dX0_keepPins_40 rfl ?_
        refine zJ_iload_n dX0_keepPins_41 rfl ?_
        refine zJ_iload dX0_keepPins_42 rfl ?_
        refine zP_callVi [_, _] _ lv_X0_138 (k_X0_hasPin (d := d - 1) hl (by omega) hb hpi) hb.1 rfl (by omega) (Nat.le_of_ble_eq_true rfl) rfl dX0_keepPins_44 ?_
        rw [h5 _ hpi, bit_F (by omega) (by omega), show kpF (F (pn i)) n (kpL C R pn i) (pn i) n = (kpL C R pn i).contains (pn i) by simp [kpF]]
        refine zJ_if_ne 78 dX0_keepPins_47 (by decide) (fun c47 => ?_) (fun c47 => ?_)
        · replace c47 := zb1.mp c47
          refine zJ_iinc1 dX0_keepPins_78 rfl (by decide) ?_
          refine zJ_goto 12 dX0_keepPins_81 (by decide) ?_
          have hk : kpL C R pn (i + 1) = kpL C R pn i := by simp only [kpL]; rw [if_neg (by rw [c37, c47]; decide)]
          refine ih (i + 1) (by omega) J ⟨h1, h2, fun j a c => h3 j (by omega) c, by rw [hk]; exact h4, by rw [hk]; exact h5⟩ |> zJ_back (zle_r (zle_r (zle_r (zle_i (by rw [hk]) (zle_r (zle_n zle_0)))))) rfl
        · replace c47 := zb0.mp c47
          refine zJ_aload_n dX0_keepPins_50 rfl ?_
          refine zP_getr lf_X0_34 hb.1 rfl (zK_rf hb 4 8 5 64 rfl) dX0_keepPins_51 ?_
          refine zJ_iload dX0_keepPins_54 rfl ?_
          refine zJ_dup2 dX0_keepPins_56 rfl rfl ?_
          refine zP_iald (zK_ar hb 4 8 5 64 rfl) (by first | assumption | with_reducible exact vp_in_nI (by omega) (by omega) | (simp (disch := omega) only [nI_add, pk_mul, pk_sub, pk_div, pk_rem, nI_clamp]; with_reducible exact vp_in_nI (by omega) (by omega))) dX0_keepPins_57 ?_
          rw [nI_clamp (by omega), h5 _ hpi]
          refine zJ_iconst (v := nI 1) dX0_keepPins_58 rfl ?_
          refine zJ_iload_n dX0_keepPins_59 rfl ?_
          refine zJ_ishl dX0_keepPins_60 ?_
          refine zJ_ior dX0_keepPins_61 ?_
          refine zP_iast (zK_ar hb 4 8 5 64 rfl) (by first | assumption | with_reducible exact vp_in_nI (by omega) (by omega) | (simp (disch := omega) only [nI_add, pk_mul, pk_sub, pk_div, pk_rem, nI_clamp]; with_reducible exact vp_in_nI (by omega) (by omega))) dX0_keepPins_62 ?_
          refine zJ_aload_n dX0_keepPins_63 rfl ?_
          rw [nI_clamp (by omega)]
          refine zP_getr lf_X0_31 hb.1 rfl (zK_rf hb 3 7 4 24 rfl) dX0_keepPins_64 ?_
          refine zJ_iload_n dX0_keepPins_67 rfl ?_
          refine zJ_iconst (v := nI 4) dX0_keepPins_68 rfl ?_
          refine zJ_imul dX0_keepPins_69 ?_
          refine zJ_iload_n dX0_keepPins_70 rfl ?_
          refine zJ_iadd dX0_keepPins_71 ?_
          rw [pk_mul, nI_add]
          refine zJ_iload dX0_keepPins_72 rfl ?_
          refine zP_iast (zK_ar hb 3 7 4 24 rfl) (by first | assumption | with_reducible exact vp_in_nI (by omega) (by omega) | (simp (disch := omega) only [nI_add, pk_mul, pk_sub, pk_div, pk_rem, nI_clamp]; with_reducible exact vp_in_nI (by omega) (by omega))) dX0_keepPins_74 ?_
          refine zJ_iinc1 dX0_keepPins_75 rfl (by decide) ?_
          refine zJ_iinc1 dX0_keepPins_78 rfl (by decide) ?_
          refine zJ_goto 12 dX0_keepPins_81 (by decide) ?_
          have hk : kpL C R pn (i + 1) = kpL C R pn i ++ [pn i] := by simp only [kpL]; rw [if_pos (by rw [c37, c47]; decide)]
          rw [nI_clamp (by omega)]
          refine ih (i + 1) (by omega) _ ⟨fun a p q => ?_, fun j hj => ?_, fun j a c => ?_, fun j hj => ?_, fun p hp => ?_⟩ |> zJ_back (zle_r (zle_r (zle_r (zle_i (by rw [hk, List.length_append]; rfl) (zle_r (zle_n zle_0)))))) rfl
          · rw [zup_row p, zup_row q]; exact h1 a p q
          · rw [zup_same, upd_ne (by omega), zup_row (by omega)]; exact h2 j hj
          · rw [zup_same, upd_ne (by omega), zup_row (by omega)]; exact h3 j (by omega) c
          · rw [hk] at hj ⊢
            rw [List.length_append, List.length_singleton] at hj
            rw [zup_same]
            by_cases z : j = (kpL C R pn i).length
            · rw [z, upd_at, List.getD_eq_getElem?_getD, List.getElem?_append_right (Nat.le_refl _)]; simp
            · rw [upd_ne (by omega), zup_row (by omega), List.getD_eq_getElem?_getD, List.getElem?_append_left (by omega), ← List.getD_eq_getElem?_getD]; exact h4 j (by omega)
          · rw [zup_row (by omega), zup_same, hk, bitF_1 c47]
            by_cases z : p = pn i
            · rw [z, upd_at, if_pos rfl]
            · rw [upd_ne z, if_neg z]; exact h5 p hp
  refine zJ_aload_n dX0_keepPins_0 rfl ?_
  refine zP_getr lf_X0_28 hb.1 rfl (zK_rf hb 2 6 3 6 rfl) dX0_keepPins_1 ?_
  refine zJ_iload_n dX0_keepPins_4 rfl ?_
  refine zP_iald (zK_ar hb 2 6 3 6 rfl) (by first | assumption | with_reducible exact vp_in_nI (by omega) (by omega) | (simp (disch := omega) only [nI_add, pk_mul, pk_sub, pk_div, pk_rem, nI_clamp]; with_reducible exact vp_in_nI (by omega) (by omega))) dX0_keepPins_5 ?_
  rw [nI_clamp (by omega), hpc]
  refine zJ_istore_m 2 dX0_keepPins_6 rfl (Nat.le_of_ble_eq_true rfl) (by decide) ?_
  refine zJ_iconst (v := nI 0) dX0_keepPins_7 rfl ?_
  refine zJ_istore_m 3 dX0_keepPins_8 rfl (Nat.le_of_ble_eq_true rfl) (by decide) ?_
  refine zJ_iconst (v := nI 0) dX0_keepPins_9 rfl ?_
  refine zJ_istore dX0_keepPins_10 (Nat.le_of_ble_eq_true rfl) (by decide) ?_
  exact loop pc 0 (by omega) I ⟨fun _ _ _ => rfl, fun _ _ => rfl, fun j _ hj => (hpn j hj).1, fun j hj => absurd hj (Nat.not_lt_zero _), fun p hp => by rw [hF p hp]; exact bitF_0.symm⟩
def nbC (C R p v : Nat) : Option Nat :=
  if v = 0 then (if 0 < p / 8 then some (p - 8) else none)
  else if v = 1 then (if p % 8 + 1 < C then some (p + 1) else none)
  else if v = 2 then (if p / 8 + 1 < R then some (p + 8) else none)
  else if v = 3 then (if 0 < p % 8 then some (p - 1) else none) else none
def bsI (b p k C R : Nat) (I J : zI) : Prop := (∀ a, a ≠ b + 8 → J a = I a) ∧ (∀ j, (j < p * 4 ∨ p * 4 + 4 ≤ j) → J (b + 8) j = I (b + 8) j) ∧ ∀ v, v < k → J (b + 8) (p * 4 + v) = oI (nbC C R p v)
theorem bsI_step {b p k C R : Nat} {J : zI} {x : Int32} (h : bsI b p k C R I J) (hk : k < 4) (hx : x = oI (nbC C R p k)) : bsI b p (k + 1) C R I (zup J (b + 8) (p * 4 + k) x) := by
  refine ⟨fun a ha => by rw [zup_row ha]; exact h.1 a ha, fun j hj => by rw [zup_same, upd_ne (by omega)]; exact h.2.1 j hj, fun v hv => ?_⟩
  rw [zup_same]
  by_cases z : v = k
  · rw [z, upd_at, hx]
  · rw [upd_ne (by omega)]; exact h.2.2 v (by omega)
theorem k_findBeside (hl : l.stackTraces = false) (hd : 1 ≤ d) {b p C R : Nat} (hb : zK g b 0 zLt_Board) (hp : p < 64) (hC : I b 0 = nI C) (hR : I b 1 = nI R) (hC8 : C ≤ 8) (hR8 : R ≤ 8) : zEv l Xi mX0_findBeside d [.ref b, .int (nI p)] I g (fun J => bsI b p 4 C R I J) := by
  refine zC_of hl rfl rfl rfl (Nat.le_of_ble_eq_true rfl) (zav_r hb.1.1 (zav_i zav_0)) ?_
  have k85 : ∀ J, bsI b p 3 C R I J → zJ l Xi mX0_findBeside d 0 0 85 [some (.ref b), some (.int (nI p)), some (.int (nI (p % 8))), some (.int (nI (p / 8)))] [] (J, g) (fun r' h' => r' = .inl none ∧ ∃ I', h' = (I', g) ∧ bsI b p 4 C R I I') := by
    intro J hJ
    refine zJ_aload_n dX0_findBeside_85 rfl ?_
    refine zP_getr lf_X0_43 hb.1 rfl (zK_rf hb 7 11 8 256 rfl) dX0_findBeside_86 ?_
    refine zJ_iload_n dX0_findBeside_89 rfl ?_
    refine zJ_iconst (v := nI 4) dX0_findBeside_90 rfl ?_
    refine zJ_imul dX0_findBeside_91 ?_
    refine zJ_iconst (v := nI 3) dX0_findBeside_92 rfl ?_
    refine zJ_iadd dX0_findBeside_93 ?_
    rw [pk_mul, nI_add]
    refine zJ_iload_n dX0_findBeside_94 rfl ?_
    refine zJ_if_le 104 dX0_findBeside_95 (by decide) (fun c95 => ?_) (fun c95 => ?_)
    · skip
      refine zJ_iconst (v := -1) dX0_findBeside_104 rfl ?_
      refine zP_iast (zK_ar hb 7 11 8 256 rfl) (by first | assumption | with_reducible exact vp_in_nI (by omega) (by omega) | (simp (disch := omega) only [nI_add, pk_mul, pk_sub, pk_div, pk_rem, nI_clamp]; with_reducible exact vp_in_nI (by omega) (by omega))) dX0_findBeside_105 ?_
      refine zJ_vret rfl dX0_findBeside_106 ?_
      rw [nI_clamp (by omega)]
      have e : ¬ 0 < p % 8 := fun z => absurd c95 (nI_nle z (by omega))
      exact ⟨rfl, _, rfl, bsI_step hJ (by omega) (by simp [nbC, e, oI])⟩
    · skip
      refine zJ_iload_n dX0_findBeside_98 rfl ?_
      refine zJ_iconst (v := nI 1) dX0_findBeside_99 rfl ?_
      refine zJ_isub dX0_findBeside_100 ?_
      refine zJ_goto 105 dX0_findBeside_101 (by decide) ?_
      refine zP_iast (zK_ar hb 7 11 8 256 rfl) (by first | assumption | with_reducible exact vp_in_nI (by omega) (by omega) | (simp (disch := omega) only [nI_add, pk_mul, pk_sub, pk_div, pk_rem, nI_clamp]; with_reducible exact vp_in_nI (by omega) (by omega))) dX0_findBeside_105 ?_
      refine zJ_vret rfl dX0_findBeside_106 ?_
      rw [nI_clamp (by omega)]
      have e : 0 < p % 8 := Nat.pos_of_ne_zero (fun z => c95 (by rw [z]; decide))
      exact ⟨rfl, _, rfl, bsI_step hJ (by omega) (by simp [nbC, e, oI]; rw [pk_sub (by omega)])⟩
  have k57 : ∀ J, bsI b p 2 C R I J → zJ l Xi mX0_findBeside d 0 0 57 [some (.ref b), some (.int (nI p)), some (.int (nI (p % 8))), some (.int (nI (p / 8)))] [] (J, g) (fun r' h' => r' = .inl none ∧ ∃ I', h' = (I', g) ∧ bsI b p 4 C R I I') := by
    intro J hJ
    refine zJ_aload_n dX0_findBeside_57 rfl ?_
    refine zP_getr lf_X0_43 hb.1 rfl (zK_rf hb 7 11 8 256 rfl) dX0_findBeside_58 ?_
    refine zJ_iload_n dX0_findBeside_61 rfl ?_
    refine zJ_iconst (v := nI 4) dX0_findBeside_62 rfl ?_
    refine zJ_imul dX0_findBeside_63 ?_
    refine zJ_iconst (v := nI 2) dX0_findBeside_64 rfl ?_
    refine zJ_iadd dX0_findBeside_65 ?_
    rw [pk_mul, nI_add]
    refine zJ_iload_n dX0_findBeside_66 rfl ?_
    refine zJ_iconst (v := nI 1) dX0_findBeside_67 rfl ?_
    refine zJ_iadd dX0_findBeside_68 ?_
    rw [nI_add]
    refine zJ_aload_n dX0_findBeside_69 rfl ?_
    refine zP_geti lf_X0_15 hb.1 rfl dX0_findBeside_70 ?_
    rw [hJ.1 b (by omega), hR]
    refine zJ_icmp_ge 83 dX0_findBeside_73 (by decide) (fun c73 => ?_) (fun c73 => ?_)
    · skip
      refine zJ_iconst (v := -1) dX0_findBeside_83 rfl ?_
      refine zP_iast (zK_ar hb 7 11 8 256 rfl) (by first | assumption | with_reducible exact vp_in_nI (by omega) (by omega) | (simp (disch := omega) only [nI_add, pk_mul, pk_sub, pk_div, pk_rem, nI_clamp]; with_reducible exact vp_in_nI (by omega) (by omega))) dX0_findBeside_84 ?_
      rw [nI_clamp (by omega)]
      have e : ¬ p / 8 + 1 < R := fun z => absurd c73 (nI_ge z (by omega))
      exact k85 _ (bsI_step hJ (by omega) (by simp [nbC, e, oI]))
    · skip
      refine zJ_iload_n dX0_findBeside_76 rfl ?_
      refine zJ_bipush (v := nI 8) dX0_findBeside_77 rfl ?_
      refine zJ_iadd dX0_findBeside_79 ?_
      rw [nI_add]
      refine zJ_goto 84 dX0_findBeside_80 (by decide) ?_
      refine zP_iast (zK_ar hb 7 11 8 256 rfl) (by first | assumption | with_reducible exact vp_in_nI (by omega) (by omega) | (simp (disch := omega) only [nI_add, pk_mul, pk_sub, pk_div, pk_rem, nI_clamp]; with_reducible exact vp_in_nI (by omega) (by omega))) dX0_findBeside_84 ?_
      rw [nI_clamp (by omega)]
      have e : p / 8 + 1 < R := Nat.lt_of_not_le (fun z => c73 (nI_le z (by omega)))
      exact k85 _ (bsI_step hJ (by omega) (by simp [nbC, e, oI]))
  have k30 : ∀ J, bsI b p 1 C R I J → zJ l Xi mX0_findBeside d 0 0 30 [some (.ref b), some (.int (nI p)), some (.int (nI (p % 8))), some (.int (nI (p / 8)))] [] (J, g) (fun r' h' => r' = .inl none ∧ ∃ I', h' = (I', g) ∧ bsI b p 4 C R I I') := by
    intro J hJ
    refine zJ_aload_n dX0_findBeside_30 rfl ?_
    refine zP_getr lf_X0_43 hb.1 rfl (zK_rf hb 7 11 8 256 rfl) dX0_findBeside_31 ?_
    refine zJ_iload_n dX0_findBeside_34 rfl ?_
    refine zJ_iconst (v := nI 4) dX0_findBeside_35 rfl ?_
    refine zJ_imul dX0_findBeside_36 ?_
    refine zJ_iconst (v := nI 1) dX0_findBeside_37 rfl ?_
    refine zJ_iadd dX0_findBeside_38 ?_
    rw [pk_mul, nI_add]
    refine zJ_iload_n dX0_findBeside_39 rfl ?_
    refine zJ_iconst (v := nI 1) dX0_findBeside_40 rfl ?_
    refine zJ_iadd dX0_findBeside_41 ?_
    rw [nI_add]
    refine zJ_aload_n dX0_findBeside_42 rfl ?_
    refine zP_geti lf_X0_9 hb.1 rfl dX0_findBeside_43 ?_
    rw [hJ.1 b (by omega), hC]
    refine zJ_icmp_ge 55 dX0_findBeside_46 (by decide) (fun c46 => ?_) (fun c46 => ?_)
    · skip
      refine zJ_iconst (v := -1) dX0_findBeside_55 rfl ?_
      refine zP_iast (zK_ar hb 7 11 8 256 rfl) (by first | assumption | with_reducible exact vp_in_nI (by omega) (by omega) | (simp (disch := omega) only [nI_add, pk_mul, pk_sub, pk_div, pk_rem, nI_clamp]; with_reducible exact vp_in_nI (by omega) (by omega))) dX0_findBeside_56 ?_
      rw [nI_clamp (by omega)]
      have e : ¬ p % 8 + 1 < C := fun z => absurd c46 (nI_ge z (by omega))
      exact k57 _ (bsI_step hJ (by omega) (by simp [nbC, e, oI]))
    · skip
      refine zJ_iload_n dX0_findBeside_49 rfl ?_
      refine zJ_iconst (v := nI 1) dX0_findBeside_50 rfl ?_
      refine zJ_iadd dX0_findBeside_51 ?_
      rw [nI_add]
      refine zJ_goto 56 dX0_findBeside_52 (by decide) ?_
      refine zP_iast (zK_ar hb 7 11 8 256 rfl) (by first | assumption | with_reducible exact vp_in_nI (by omega) (by omega) | (simp (disch := omega) only [nI_add, pk_mul, pk_sub, pk_div, pk_rem, nI_clamp]; with_reducible exact vp_in_nI (by omega) (by omega))) dX0_findBeside_56 ?_
      rw [nI_clamp (by omega)]
      have e : p % 8 + 1 < C := Nat.lt_of_not_le (fun z => c46 (nI_le z (by omega)))
      exact k57 _ (bsI_step hJ (by omega) (by simp [nbC, e, oI]))
  have h0 : bsI b p 0 C R I I := ⟨fun _ _ => rfl, fun _ _ => rfl, fun v hv => absurd hv (Nat.not_lt_zero _)⟩
  refine zJ_iload_n dX0_findBeside_0 rfl ?_
  refine zJ_bipush (v := nI 8) dX0_findBeside_1 rfl ?_
  refine zJ_irem dX0_findBeside_3 (by decide) ?_
  rw [pk_rem (by omega) (by omega) (by omega)]
  refine zJ_istore_m 2 dX0_findBeside_4 rfl (Nat.le_of_ble_eq_true rfl) (by decide) ?_
  refine zJ_iload_n dX0_findBeside_5 rfl ?_
  refine zJ_bipush (v := nI 8) dX0_findBeside_6 rfl ?_
  refine zJ_idiv dX0_findBeside_8 (by decide) ?_
  rw [pk_div (by omega) (by omega) (by omega)]
  refine zJ_istore_m 3 dX0_findBeside_9 rfl (Nat.le_of_ble_eq_true rfl) (by decide) ?_
  refine zJ_aload_n dX0_findBeside_10 rfl ?_
  refine zP_getr lf_X0_43 hb.1 rfl (zK_rf hb 7 11 8 256 rfl) dX0_findBeside_11 ?_
  refine zJ_iload_n dX0_findBeside_14 rfl ?_
  refine zJ_iconst (v := nI 4) dX0_findBeside_15 rfl ?_
  refine zJ_imul dX0_findBeside_16 ?_
  rw [pk_mul]
  refine zJ_iload_n dX0_findBeside_17 rfl ?_
  refine zJ_if_le 28 dX0_findBeside_18 (by decide) (fun c18 => ?_) (fun c18 => ?_)
  · skip
    refine zJ_iconst (v := -1) dX0_findBeside_28 rfl ?_
    refine zP_iast (zK_ar hb 7 11 8 256 rfl) (by first | assumption | with_reducible exact vp_in_nI (by omega) (by omega) | (simp (disch := omega) only [nI_add, pk_mul, pk_sub, pk_div, pk_rem, nI_clamp]; with_reducible exact vp_in_nI (by omega) (by omega))) dX0_findBeside_29 ?_
    rw [nI_clamp (by omega)]
    have e : ¬ 0 < p / 8 := fun z => absurd c18 (nI_nle z (by omega))
    exact k30 _ (bsI_step h0 (by omega) (by simp [nbC, e, oI]))
  · skip
    refine zJ_iload_n dX0_findBeside_21 rfl ?_
    refine zJ_bipush (v := nI 8) dX0_findBeside_22 rfl ?_
    refine zJ_isub dX0_findBeside_24 ?_
    refine zJ_goto 29 dX0_findBeside_25 (by decide) ?_
    refine zP_iast (zK_ar hb 7 11 8 256 rfl) (by first | assumption | with_reducible exact vp_in_nI (by omega) (by omega) | (simp (disch := omega) only [nI_add, pk_mul, pk_sub, pk_div, pk_rem, nI_clamp]; with_reducible exact vp_in_nI (by omega) (by omega))) dX0_findBeside_29 ?_
    rw [nI_clamp (by omega)]
    have e : 0 < p / 8 := Nat.pos_of_ne_zero (fun z => c18 (by rw [z]; decide))
    exact k30 _ (bsI_step h0 (by omega) (by simp [nbC, e, oI]; rw [pk_sub (by omega)]))
end ZFin
