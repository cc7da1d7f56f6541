/-! ===== Text ===== -/
section ZText
variable {l : Launch} {Xi : zXi} {d : Nat} {I : zI} {g : zG}
def spF (P : Nat → Bool) (L : Nat) : Nat → Nat → Nat
  | 0, a => a
  | k + 1, a => if decide (a < L) && P a then spF P L k (a + 1) else a
def sp (P : Nat → Bool) (L a : Nat) : Nat := spF P L (L - a) a
theorem sp_step {P : Nat → Bool} {L a : Nat} : sp P L a = if a < L ∧ P a = true then sp P L (a + 1) else a := by
  unfold sp
  by_cases h : a < L
  · rw [show L - a = (L - (a + 1)) + 1 by omega]
    simp only [spF]
    by_cases hp : P a = true
    · rw [if_pos (show (decide (a < L) && P a) = true by simp [h, hp]), if_pos ⟨h, hp⟩]
    · rw [if_neg (show ¬ (decide (a < L) && P a) = true by simp [hp]), if_neg (fun z => hp z.2)]
  · rw [if_neg (fun z => h z.1), show L - a = 0 by omega]
    rfl
theorem sp_ge {P : Nat → Bool} {L : Nat} : ∀ {k a : Nat}, a ≤ spF P L k a
  | 0, a => Nat.le_refl _
  | k + 1, a => by
    simp only [spF]
    split
    · have := sp_ge (P := P) (L := L) (k := k) (a := a + 1); omega
    · exact Nat.le_refl _
theorem sp_le' {P : Nat → Bool} {L : Nat} : ∀ {k a : Nat}, a ≤ L → spF P L k a ≤ L
  | 0, a, h => h
  | k + 1, a, h => by
    simp only [spF]
    split
    · next z => simp at z; exact sp_le' (by omega)
    · exact h
theorem sp_g {P : Nat → Bool} {L a : Nat} : a ≤ sp P L a := sp_ge
theorem sp_l {P : Nat → Bool} {L a : Nat} (h : a ≤ L) : sp P L a ≤ L := sp_le' h
def blB (bs : Nat → Nat) (k : Nat) : Bool := decide (bs k = 32)
def dgB (bs : Nat → Nat) (k : Nat) : Bool := decide (48 ≤ bs k) && decide (bs k ≤ 57)
def ltB (bs : Nat → Nat) (k : Nat) : Bool := decide (97 ≤ bs k) && decide (bs k ≤ 122)
def sk (bs : Nat → Nat) (L a : Nat) : Nat := sp (blB bs) L a
/-- the text: its bytes, length, at, from, kind, fault -/
def tx (I : zI) (bs : Nat → Nat) (L A F K : Nat) (W : Int32) : Prop := I 1 1 = nI 0 ∧ I 1 2 = nI L ∧ L ≤ 600 ∧ I 1 3 = nI A ∧ A ≤ L ∧ I 1 4 = nI F ∧ F ≤ A ∧ I 1 5 = nI K ∧ K ≤ 3 ∧ I 1 6 = W ∧ ∀ k, k < 600 → I 2 k = nI (bs k) ∧ bs k < 256
def fT (I J : zI) : Prop := ∀ a, a ≠ 1 → J a = I a
theorem fT_rfl : fT I I := fun _ _ => rfl
theorem fT_trans {J K : zI} (h : fT I J) (h2 : fT J K) : fT I K := fun a q => (h2 a q).trans (h a q)
theorem fT_zup {J : zI} {k : Nat} {x : Int32} (h : fT I J) : fT I (zup J 1 k x) := fun a q => (zup_row q).trans (h a q)
theorem tx_at {bs : Nat → Nat} {L A F K A' : Nat} {W : Int32} (h : tx I bs L A F K W) (h1 : A' ≤ L) (h2 : F ≤ A') : tx (zup I 1 3 (nI A')) bs L A' F K W := by
  obtain ⟨a1, a2, a3, a4, a5, a6, a7, a8, a9, a10, a11⟩ := h
  exact ⟨by rw [zup_same, upd_ne (by decide)]; exact a1, by rw [zup_same, upd_ne (by decide)]; exact a2, a3, by rw [zup_same, upd_at], h1, by rw [zup_same, upd_ne (by decide)]; exact a6, h2, by rw [zup_same, upd_ne (by decide)]; exact a8, a9, by rw [zup_same, upd_ne (by decide)]; exact a10, by rw [zup_row (by decide)]; exact a11⟩
theorem tx_from {bs : Nat → Nat} {L A F K F' : Nat} {W : Int32} (h : tx I bs L A F K W) (h1 : F' ≤ A) : tx (zup I 1 4 (nI F')) bs L A F' K W := by
  obtain ⟨a1, a2, a3, a4, a5, a6, a7, a8, a9, a10, a11⟩ := h
  exact ⟨by rw [zup_same, upd_ne (by decide)]; exact a1, by rw [zup_same, upd_ne (by decide)]; exact a2, a3, by rw [zup_same, upd_ne (by decide)]; exact a4, a5, by rw [zup_same, upd_at], h1, by rw [zup_same, upd_ne (by decide)]; exact a8, a9, by rw [zup_same, upd_ne (by decide)]; exact a10, by rw [zup_row (by decide)]; exact a11⟩
theorem tx_flt {bs : Nat → Nat} {L A F K k : Nat} {W w : Int32} (h : tx I bs L A F K W) (h1 : k ≤ 3) : tx (zup (zup I 1 5 (nI k)) 1 6 w) bs L A F k w := by
  obtain ⟨a1, a2, a3, a4, a5, a6, a7, a8, a9, a10, a11⟩ := h
  exact ⟨by rw [zup_same, upd_ne (by decide), zup_same, upd_ne (by decide)]; exact a1, by rw [zup_same, upd_ne (by decide), zup_same, upd_ne (by decide)]; exact a2, a3, by rw [zup_same, upd_ne (by decide), zup_same, upd_ne (by decide)]; exact a4, a5, by rw [zup_same, upd_ne (by decide), zup_same, upd_ne (by decide)]; exact a6, a7, by rw [zup_same, upd_ne (by decide), zup_same, upd_at], h1, by rw [zup_same, upd_at], by rw [zup_row (by decide), zup_row (by decide)]; exact a11⟩
/-- the text in other memory -/
theorem tx_of {J : zI} {bs : Nat → Nat} {L A F K : Nat} {W : Int32} (h : tx I bs L A F K W) (e1 : J 1 = I 1) (e2 : J 2 = I 2) : tx J bs L A F K W := by
  unfold tx at *
  rw [e1, e2]
  exact h
theorem k_X10_failed (hl : l.stackTraces = false) (hd : 1 ≤ d) (hs : zSt g) {bs : Nat → Nat} {L A F K : Nat} {W : Int32} (ht : tx I bs L A F K W) : zD l Xi mX10_failed d [.ref 1] I g (some (.int (if decide (K ≠ 0) then 1 else 0))) I := by
  refine zC_of hl rfl rfl rfl (Nat.le_of_ble_eq_true rfl) (zav_r (zSt_ob hs 1 10 rfl).1 zav_0) ?_
  have hK := ht.2.2.2.2.2.2.2.1
  have hK3 := ht.2.2.2.2.2.2.2.2.1
  refine zJ_aload_n dX10_failed_0 rfl ?_
  refine zP_geti lf_X10_31 (zSt_ob hs 1 10 rfl) rfl dX10_failed_1 ?_
  rw [hK]
  refine zJ_if_eq 11 dX10_failed_4 (by decide) (fun c4 => ?_) (fun c4 => ?_)
  · skip
    refine zJ_iconst (v := nI 0) dX10_failed_11 rfl ?_
    refine zJ_zret rfl (by decide) dX10_failed_12 ?_
    have e : K = 0 := by
      rcases Nat.eq_zero_or_pos K with z | z
      · exact z
      · exact absurd c4 (nI_ne0 z (by omega))
    rw [decide_eq_false (fun z => z e)]
    exact ⟨rfl, rfl⟩
  · skip
    refine zJ_iconst (v := nI 1) dX10_failed_7 rfl ?_
    refine zJ_goto 12 dX10_failed_8 (by decide) ?_
    refine zJ_zret rfl (by decide) dX10_failed_12 ?_
    rw [decide_eq_true (show K ≠ 0 from fun z => c4 (by rw [z]; rfl))]
    exact ⟨rfl, rfl⟩
theorem k_X10_fail (hl : l.stackTraces = false) (hd : 1 ≤ d) (hs : zSt g) {bs : Nat → Nat} {L A F K k : Nat} {W w : Int32} (ht : tx I bs L A F K W) (hk : k ≤ 3) : zEv l Xi mX10_fail d [.ref 1, .int (nI k), .int w] I g (fun J => fT I J ∧ tx J bs L A F (if K = 0 then k else K) (if K = 0 then w else W)) := by
  refine zC_of hl rfl rfl rfl (Nat.le_of_ble_eq_true rfl) (zav_r (zSt_ob hs 1 10 rfl).1 (zav_i (zav_i zav_0))) ?_
  have hK := ht.2.2.2.2.2.2.2.1
  have hK3 := ht.2.2.2.2.2.2.2.2.1
  refine zJ_aload_n dX10_fail_0 rfl ?_
  refine zP_geti lf_X10_31 (zSt_ob hs 1 10 rfl) rfl dX10_fail_1 ?_
  rw [hK]
  refine zJ_if_ne 17 dX10_fail_4 (by decide) (fun c4 => ?_) (fun c4 => ?_)
  · skip
    refine zJ_vret rfl dX10_fail_17 ?_
    have e : ¬ K = 0 := fun z => c4 (by rw [z]; rfl)
    rw [if_neg e, if_neg e]
    exact ⟨rfl, I, rfl, fT_rfl, ht⟩
  · skip
    refine zJ_aload_n dX10_fail_7 rfl ?_
    refine zJ_iload_n dX10_fail_8 rfl ?_
    refine zP_puti lf_X10_31 (zSt_ob hs 1 10 rfl) rfl dX10_fail_9 ?_
    refine zJ_aload_n dX10_fail_12 rfl ?_
    refine zJ_iload_n dX10_fail_13 rfl ?_
    refine zP_puti lf_X10_15 (zSt_ob hs 1 10 rfl) rfl dX10_fail_14 ?_
    refine zJ_vret rfl dX10_fail_17 ?_
    have e : K = 0 := by
      rcases Nat.eq_zero_or_pos K with z | z
      · exact z
      · exact absurd c4 (nI_ne0 z (by omega))
    rw [if_pos e, if_pos e]
    exact ⟨rfl, _, rfl, fT_zup (fT_zup fT_rfl), tx_flt ht hk⟩
theorem k_X10_skipBlanks (hl : l.stackTraces = false) (hd : 1 ≤ d) (hs : zSt g) {bs : Nat → Nat} {L A F K : Nat} {W : Int32} (ht : tx I bs L A F K W) : zEv l Xi mX10_skipBlanks d [.ref 1] I g (fun J => fT I J ∧ tx J bs L (sk bs L A) (sk bs L A) K W) := by
  refine zC_of hl rfl rfl rfl (Nat.le_of_ble_eq_true rfl) (zav_r (zSt_ob hs 1 10 rfl).1 zav_0) ?_
  obtain ⟨V, hV⟩ : ∃ V, sk bs L A = V := ⟨_, rfl⟩
  rw [hV]
  have h38 : ∀ J, fT I J → tx J bs L V F K W → zJ l Xi mX10_skipBlanks d 0 0 38 [some (.ref 1)] [] (J, g) (fun r' h' => r' = .inl none ∧ ∃ I', h' = (I', g) ∧ fT I I' ∧ tx I' bs L V V K W) := by
    intro J h1 h2
    refine zJ_aload_n dX10_skipBlanks_38 rfl ?_
    refine zJ_aload_n dX10_skipBlanks_39 rfl ?_
    refine zP_geti lf_X10_25 (zSt_ob hs 1 10 rfl) rfl dX10_skipBlanks_40 ?_
    rw [h2.2.2.2.1]
    refine zP_puti lf_X10_28 (zSt_ob hs 1 10 rfl) rfl dX10_skipBlanks_43 ?_
    refine zJ_vret rfl dX10_skipBlanks_46 ?_
    exact ⟨rfl, _, rfl, fT_zup h1, tx_from h2 (Nat.le_refl _)⟩
  have loop : ∀ m (J : zI) (A : Nat), L - A = m → fT I J → tx J bs L A F K W → sk bs L A = V → zJ l Xi mX10_skipBlanks d 0 0 0 [some (.ref 1)] [] (J, g) (fun r' h' => r' = .inl none ∧ ∃ I', h' = (I', g) ∧ fT I I' ∧ tx I' bs L V V K W) := by
    intro m
    induction m with
    | zero =>
      intro J A hm h1 h2 h3
      have hA : A = L := by have := h2.2.2.2.2.1; omega
      have hL6 := h2.2.2.1
      rw [show sk bs L A = A by unfold sk; rw [sp_step, if_neg (by omega)]] at h3
      subst h3
      refine zJ_aload_n dX10_skipBlanks_0 rfl ?_
      refine zP_geti lf_X10_25 (zSt_ob hs 1 10 rfl) rfl dX10_skipBlanks_1 ?_
      refine zJ_aload_n dX10_skipBlanks_4 rfl ?_
      refine zP_geti lf_X10_22 (zSt_ob hs 1 10 rfl) rfl dX10_skipBlanks_5 ?_
      rw [h2.2.2.2.1, h2.2.1]
      refine zJ_icmp_ge 38 dX10_skipBlanks_8 (by decide) (fun _ => ?_) (fun c8 => absurd (nI_le (by omega) (by omega)) c8)
      exact h38 J h1 h2
    | succ m ih =>
      intro J A hm h1 h2 h3
      have hL6 := h2.2.2.1
      have hby := h2.2.2.2.2.2.2.2.2.2.2 A (by omega)
      have hFA := h2.2.2.2.2.2.2.1
      unfold sk at h3
      rw [sp_step] at h3
      refine zJ_aload_n dX10_skipBlanks_0 rfl ?_
      refine zP_geti lf_X10_25 (zSt_ob hs 1 10 rfl) rfl dX10_skipBlanks_1 ?_
      refine zJ_aload_n dX10_skipBlanks_4 rfl ?_
      refine zP_geti lf_X10_22 (zSt_ob hs 1 10 rfl) rfl dX10_skipBlanks_5 ?_
      rw [h2.2.2.2.1, h2.2.1]
      refine zJ_icmp_ge 38 dX10_skipBlanks_8 (by decide) (fun c8 => absurd c8 (nI_ge (by omega) (by omega))) (fun _ => ?_)
      refine zJ_aload_n dX10_skipBlanks_11 rfl ?_
      refine zP_getr lf_X10_9 (zSt_ob hs 1 10 rfl) rfl (zSt_rf hs 1 0 2 rfl) dX10_skipBlanks_12 ?_
      refine zJ_aload_n dX10_skipBlanks_15 rfl ?_
      refine zP_geti lf_X10_25 (zSt_ob hs 1 10 rfl) rfl dX10_skipBlanks_16 ?_
      rw [h2.2.2.2.1]
      refine zP_iald (zSt_ar hs 2 600 rfl) (by first | assumption | with_reducible exact vp_in_nI (by omega) (by omega) | (simp (disch := omega) only [nI_add, pk_mul, pk_sub, pk_div, pk_rem, nI_clamp]; with_reducible exact vp_in_nI (by omega) (by omega))) dX10_skipBlanks_19 ?_
      rw [nI_clamp (by omega), hby.1]
      refine zJ_bipush (v := nI 32) dX10_skipBlanks_20 rfl ?_
      refine zJ_icmp_ne 38 dX10_skipBlanks_22 (by decide) (fun c22 => ?_) (fun c22 => ?_)
      · skip
        rw [if_neg (fun z => c22 (by rw [of_decide_eq_true z.2]))] at h3
        subst h3
        exact h38 J h1 h2
      · skip
        refine zJ_aload_n dX10_skipBlanks_25 rfl ?_
        refine zJ_dup dX10_skipBlanks_26 rfl ?_
        refine zP_geti lf_X10_25 (zSt_ob hs 1 10 rfl) rfl dX10_skipBlanks_27 ?_
        refine zJ_iconst (v := nI 1) dX10_skipBlanks_30 rfl ?_
        rw [h2.2.2.2.1]
        refine zJ_iadd dX10_skipBlanks_31 ?_
        rw [nI_add]
        refine zP_puti lf_X10_25 (zSt_ob hs 1 10 rfl) rfl dX10_skipBlanks_32 ?_
        refine zJ_goto 0 dX10_skipBlanks_35 (by decide) ?_
        have e : bs A = 32 := (nI_eq (by omega) (by omega)).mp c22
        rw [if_pos ⟨by omega, decide_eq_true e⟩] at h3
        exact ih _ (A + 1) (by omega) (fT_zup h1) (tx_at h2 (by omega) (by omega)) h3
  exact loop _ I A rfl fT_rfl ht hV
end ZText
