/-! ===== the reference: bytes, blanks, numbers, signs ===== -/
section ZRefAD
variable {l : Launch} {Xi : zXi} {d : Nat} {I : zI} {g : zG}
/-- the text the reference reads: its bytes, length, at, fault -/
def rz (I : zI) (bs : Nat → Nat) (L A : Nat) (e : Option (Nat × Nat)) : Prop := I 74 2 = nI L ∧ L ≤ 600 ∧ I 74 4 = nI A ∧ A ≤ L ∧ I 74 5 = nI (eK e) ∧ I 74 6 = eW e ∧ (∀ q, e = some q → 1 ≤ q.1 ∧ q.1 ≤ 3) ∧ ∀ k, k < L → I 75 k = nI (bs k) ∧ bs k < 256
def ft (I J : zI) : Prop := (∀ a, a ≠ 74 → J a = I a) ∧ ∀ k, k ≠ 4 → k ≠ 5 → k ≠ 6 → J 74 k = I 74 k
theorem ft_rfl : ft I I := ⟨fun _ _ => rfl, fun _ _ _ _ => rfl⟩
theorem ft_trans {J K : zI} (h : ft I J) (h2 : ft J K) : ft I K := ⟨fun a q => (h2.1 a q).trans (h.1 a q), fun k q1 q2 q3 => (h2.2 k q1 q2 q3).trans (h.2 k q1 q2 q3)⟩
theorem ft_at {J : zI} {x : Int32} (h : ft I J) : ft I (zup J 74 4 x) := ⟨fun a q => (zup_row q).trans (h.1 a q), fun k q1 q2 q3 => by rw [zup_same, upd_ne q1]; exact h.2 k q1 q2 q3⟩
section ACC
variable {bs : Nat → Nat} {L A : Nat} {e : Option (Nat × Nat)}
theorem rz_at (h : rz I bs L A e) {A' : Nat} (hA : A' ≤ L) : rz (zup I 74 4 (nI A')) bs L A' e := by
  obtain ⟨h1, h2, h3, h4, h5, h6, h7, h8⟩ := h
  exact ⟨by rw [zup_same, upd_ne (by decide)]; exact h1, h2, by rw [zup_same, upd_at], hA, by rw [zup_same, upd_ne (by decide)]; exact h5, by rw [zup_same, upd_ne (by decide)]; exact h6, h7, fun k hk => by rw [zup_row (by decide)]; exact h8 k hk⟩
theorem rz_of {J : zI} (h : rz I bs L A e) (e1 : ∀ k, k = 2 ∨ k = 4 ∨ k = 5 ∨ k = 6 → J 74 k = I 74 k) (e2 : J 75 = I 75) : rz J bs L A e := by
  unfold rz at *
  rw [e1 2 (by decide), e1 4 (by decide), e1 5 (by decide), e1 6 (by decide), e2]; exact h
end ACC
def byC (bs : Nat → Nat) (L k : Nat) : Int32 := if k < L then nI (bs k) else -1
theorem m_byteAt (hl : l.stackTraces = false) (hd : 1 ≤ d) (hs : zSt g) {bs : Nat → Nat} {L A k : Nat} {e : Option (Nat × Nat)} (h : rz I bs L A e) (hk : k < 2 ^ 30) : zD l Xi mX13_byteAt d [.ref 74, .int (nI k)] I g (some (.int (byC bs L k))) I := by
  refine zC_of hl rfl rfl rfl (Nat.le_of_ble_eq_true rfl) (zav_r (zSt_ob hs 74 13 rfl).1 (zav_i zav_0)) ?_
  have hL := h.2.1
  unfold byC
  by_cases z : k < L
  · rw [if_pos z]
    refine zJ_iload_n dX13_byteAt_0 rfl ?_
    refine zJ_aload_n dX13_byteAt_1 rfl ?_
    refine zP_geti lf_X13_113 (zSt_ob hs 74 13 rfl) rfl dX13_byteAt_2 ?_
    rw [h.1]
    refine zJ_icmp_lt 12 dX13_byteAt_5 (by decide) (fun _ => ?_) (fun c5 => absurd (nI_lt z (by omega)) c5)
    refine zJ_aload_n dX13_byteAt_12 rfl ?_
    refine zP_getr lf_X13_13 (zSt_ob hs 74 13 rfl) rfl (zSt_rf hs 74 9 75 rfl) dX13_byteAt_13 ?_
    refine zJ_iload_n dX13_byteAt_16 rfl ?_
    refine zP_iald (zSt_ar hs 75 600 rfl) (by first | assumption | with_reducible exact vp_in_nI (by omega) (by omega) | (simp (disch := omega) only [nI_add, pk_mul, pk_sub, pk_div, pk_rem, nI_clamp]; with_reducible exact vp_in_nI (by omega) (by omega))) dX13_byteAt_17 ?_
    refine zJ_iret rfl dX13_byteAt_18 ?_
    exact ⟨by rw [nI_clamp (by omega), (h.2.2.2.2.2.2.2 k z).1], rfl⟩
  · rw [if_neg z]
    refine zJ_iload_n dX13_byteAt_0 rfl ?_
    refine zJ_aload_n dX13_byteAt_1 rfl ?_
    refine zP_geti lf_X13_113 (zSt_ob hs 74 13 rfl) rfl dX13_byteAt_2 ?_
    rw [h.1]
    refine zJ_icmp_lt 12 dX13_byteAt_5 (by decide) (fun c5 => absurd c5 (nI_nlt (by omega) (by omega))) (fun _ => ?_)
    refine zJ_iconst (v := -1) dX13_byteAt_8 rfl ?_
    refine zJ_goto 18 dX13_byteAt_9 (by decide) ?_
    refine zJ_iret rfl dX13_byteAt_18 ?_
    exact ⟨rfl, rfl⟩
def rngI (lo hi : Nat) (x : Int32) : Bool := decide (¬ x < nI lo) && decide (x ≤ nI hi)
theorem m_isDigit (hl : l.stackTraces = false) (hd : 1 ≤ d) {x : Int32} : zD l Xi mX13_isDigit d [.int x] I g (some (.int (if rngI 48 57 x then 1 else 0))) I := by
  refine zC_of hl rfl rfl rfl (Nat.le_of_ble_eq_true rfl) (zav_i zav_0) ?_
  refine zJ_iload_n dX13_isDigit_0 rfl ?_
  refine zJ_bipush (v := nI 48) dX13_isDigit_1 rfl ?_
  refine zJ_icmp_lt 16 dX13_isDigit_3 (by decide) (fun c3 => ?_) (fun c3 => ?_)
  · skip
    refine zJ_iconst (v := nI 0) dX13_isDigit_16 rfl ?_
    refine zJ_zret rfl (by decide) dX13_isDigit_17 ?_
    exact ⟨by simp [rngI, c3, nI0], rfl⟩
  · skip
    refine zJ_iload_n dX13_isDigit_6 rfl ?_
    refine zJ_bipush (v := nI 57) dX13_isDigit_7 rfl ?_
    refine zJ_icmp_gt 16 dX13_isDigit_9 (by decide) (fun c9 => ?_) (fun c9 => ?_)
    · skip
      refine zJ_iconst (v := nI 0) dX13_isDigit_16 rfl ?_
      refine zJ_zret rfl (by decide) dX13_isDigit_17 ?_
      exact ⟨by simp [rngI, Int32.not_le.mpr c9, nI0], rfl⟩
    · skip
      refine zJ_iconst (v := nI 1) dX13_isDigit_12 rfl ?_
      refine zJ_goto 17 dX13_isDigit_13 (by decide) ?_
      refine zJ_zret rfl (by decide) dX13_isDigit_17 ?_
      exact ⟨by simp [rngI, c3, Int32.not_lt.mp c9, nI1], rfl⟩
theorem m_isSmall (hl : l.stackTraces = false) (hd : 1 ≤ d) {x : Int32} : zD l Xi mX13_isSmall d [.int x] I g (some (.int (if rngI 97 122 x then 1 else 0))) I := by
  refine zC_of hl rfl rfl rfl (Nat.le_of_ble_eq_true rfl) (zav_i zav_0) ?_
  refine zJ_iload_n dX13_isSmall_0 rfl ?_
  refine zJ_bipush (v := nI 97) dX13_isSmall_1 rfl ?_
  refine zJ_icmp_lt 16 dX13_isSmall_3 (by decide) (fun c3 => ?_) (fun c3 => ?_)
  · skip
    refine zJ_iconst (v := nI 0) dX13_isSmall_16 rfl ?_
    refine zJ_zret rfl (by decide) dX13_isSmall_17 ?_
    exact ⟨by simp [rngI, c3, nI0], rfl⟩
  · skip
    refine zJ_iload_n dX13_isSmall_6 rfl ?_
    refine zJ_bipush (v := nI 122) dX13_isSmall_7 rfl ?_
    refine zJ_icmp_gt 16 dX13_isSmall_9 (by decide) (fun c9 => ?_) (fun c9 => ?_)
    · skip
      refine zJ_iconst (v := nI 0) dX13_isSmall_16 rfl ?_
      refine zJ_zret rfl (by decide) dX13_isSmall_17 ?_
      exact ⟨by simp [rngI, Int32.not_le.mpr c9, nI0], rfl⟩
    · skip
      refine zJ_iconst (v := nI 1) dX13_isSmall_12 rfl ?_
      refine zJ_goto 17 dX13_isSmall_13 (by decide) ?_
      refine zJ_zret rfl (by decide) dX13_isSmall_17 ?_
      exact ⟨by simp [rngI, c3, Int32.not_lt.mp c9, nI1], rfl⟩
theorem rng_by {bs : Nat → Nat} {L lo hi k : Nat} (h8 : k < L → bs k < 256) (hh : hi < 1000) (hlo : lo < 1000) : rngI lo hi (byC bs L k) = (decide (k < L) && (decide (lo ≤ bs k) && decide (bs k ≤ hi))) := by
  unfold byC rngI
  by_cases z : k < L
  · have := h8 z
    rw [if_pos z, decide_eq_true z, Bool.true_and]
    congr 1
    · exact decide_eq_decide.mpr ⟨fun q => Nat.le_of_not_lt (fun y => q (nI_lt y (by omega))), fun q => nI_nlt q (by omega)⟩
    · exact decide_eq_decide.mpr (nI_leI (by omega) (by omega))
  · rw [if_neg z, decide_eq_false z, Bool.false_and, decide_eq_false (fun q => q (Int32.lt_of_lt_of_le (show (-1 : Int32) < 0 by decide) (nI_pos' (n := lo) (by omega)))), Bool.false_and]
theorem by_eq {bs : Nat → Nat} {L k c : Nat} (h8 : k < L → bs k < 256) (hc : c < 256) : byC bs L k = nI c ↔ hitB bs L k c = true := by
  unfold byC hitB
  by_cases z : k < L
  · have := h8 z
    rw [if_pos z, decide_eq_true z, Bool.true_and, decide_eq_true_iff, nI_eq (by omega) (by omega)]
  · rw [if_neg z, decide_eq_false z, Bool.false_and]
    exact ⟨fun q => absurd q.symm (nI_ne1 (by omega)), fun q => by cases q⟩
theorem sk_st {P : Nat → Bool} {L a : Nat} (h : a < L) (hp : P a = true) : sp P L (a + 1) = sp P L a := by
  rw [sp_step (a := a), if_pos ⟨h, hp⟩]
theorem sp_no {P : Nat → Bool} {L a : Nat} (h : ¬ (a < L ∧ P a = true)) : sp P L a = a := by rw [sp_step, if_neg h]
theorem m_blanks (hl : l.stackTraces = false) (hd : 2 ≤ d) (hs : zSt g) {bs : Nat → Nat} {L A : Nat} {e : Option (Nat × Nat)} (h : rz I bs L A e) : zEv l Xi mX13_blanks d [.ref 74] I g (fun J => ft I J ∧ rz J bs L (sk bs L A) e) := by
  refine zC_of hl rfl rfl rfl (Nat.le_of_ble_eq_true rfl) (zav_r (zSt_ob hs 74 13 rfl).1 zav_0) ?_
  have hL := h.2.1
  have loop : ∀ m (J : zI) (B : Nat), L - B = m → ft I J → rz J bs L B e → sk bs L B = sk bs L A → zJ l Xi mX13_blanks d 0 0 0 [some (.ref 74)] [] (J, g) (fun r' h' => r' = .inl none ∧ ∃ I', h' = (I', g) ∧ ft I I' ∧ rz I' bs L (sk bs L A) e) := by
    intro m
    induction m with
    | zero =>
      intro J B hm hf hz hk
      have hB := hz.2.2.2.1
      have e0 : sk bs L B = B := sp_no (fun q => by omega)
      have hn : hitB bs L B 32 = false := by unfold hitB; rw [decide_eq_false (by omega)]; rfl
      refine zJ_aload_n dX13_blanks_0 rfl ?_
      refine zJ_aload_n dX13_blanks_1 rfl ?_
      refine zP_geti lf_X13_116 (zSt_ob hs 74 13 rfl) rfl dX13_blanks_2 ?_
      rw [hz.2.2.1]
      refine zP_callVi [_] _ lv_X13_119 (m_byteAt (d := d - 1) hl (by omega) hs hz (by omega)) (zSt_ob hs 74 13 rfl) rfl (by omega) (Nat.le_of_ble_eq_true rfl) rfl dX13_blanks_5 ?_
      refine zJ_bipush (v := nI 32) dX13_blanks_8 rfl ?_
      refine zJ_icmp_ne 26 dX13_blanks_10 (by decide) (fun _ => ?_) (fun c10 => absurd c10 (fun q => by rw [by_eq (fun q => (hz.2.2.2.2.2.2.2 B q).2) (by omega), hn] at q; cases q))
      refine zJ_vret rfl dX13_blanks_26 ?_
      exact ⟨rfl, J, rfl, hf, by rw [← hk, e0]; exact hz⟩
    | succ m ih =>
      intro J B hm hf hz hk
      have hB := hz.2.2.2.1
      have hb8 := fun q => (hz.2.2.2.2.2.2.2 B q).2
      refine zJ_aload_n dX13_blanks_0 rfl ?_
      refine zJ_aload_n dX13_blanks_1 rfl ?_
      refine zP_geti lf_X13_116 (zSt_ob hs 74 13 rfl) rfl dX13_blanks_2 ?_
      rw [hz.2.2.1]
      refine zP_callVi [_] _ lv_X13_119 (m_byteAt (d := d - 1) hl (by omega) hs hz (by omega)) (zSt_ob hs 74 13 rfl) rfl (by omega) (Nat.le_of_ble_eq_true rfl) rfl dX13_blanks_5 ?_
      refine zJ_bipush (v := nI 32) dX13_blanks_8 rfl ?_
      refine zJ_icmp_ne 26 dX13_blanks_10 (by decide) (fun c10 => ?_) (fun c10 => ?_)
      · skip
        refine zJ_vret rfl dX13_blanks_26 ?_
        have hn : ¬ (B < L ∧ blB bs B = true) := fun q => c10 ((by_eq hb8 (by omega)).mpr (by unfold hitB; rw [decide_eq_true q.1]; exact q.2))
        exact ⟨rfl, J, rfl, hf, by rw [← hk, show sk bs L B = B from sp_no hn]; exact hz⟩
      · skip
        refine zJ_aload_n dX13_blanks_13 rfl ?_
        refine zJ_dup dX13_blanks_14 rfl ?_
        refine zP_geti lf_X13_116 (zSt_ob hs 74 13 rfl) rfl dX13_blanks_15 ?_
        rw [hz.2.2.1]
        refine zJ_iconst (v := nI 1) dX13_blanks_18 rfl ?_
        refine zJ_iadd dX13_blanks_19 ?_
        rw [nI_add]
        refine zP_puti lf_X13_116 (zSt_ob hs 74 13 rfl) rfl dX13_blanks_20 ?_
        refine zJ_goto 0 dX13_blanks_23 (by decide) ?_
        have hy := (by_eq hb8 (by omega)).mp c10
        have hy2 : blB bs B = true := by unfold hitB at hy; rw [Bool.and_eq_true] at hy; exact hy.2
        exact zJ_back (zle_r zle_0) rfl (ih _ (B + 1) (by omega) (ft_at hf) (rz_at hz (by omega)) ((sk_st (by omega) hy2).trans hk))
  exact loop (L - A) I A rfl ft_rfl h rfl
theorem m_wrong (hl : l.stackTraces = false) (hd : 1 ≤ d) (hs : zSt g) {bs : Nat → Nat} {L A k w : Nat} {e : Option (Nat × Nat)} {x : Int32} (h : rz I bs L A e) (hk : 1 ≤ k) (hk3 : k ≤ 3) (hx : x = nI w) : zEv l Xi mX13_wrong d [.ref 74, .int (nI k), .int x] I g (fun J => ft I J ∧ rz J bs L A (mg e (some (k, w)))) := by
  subst hx
  refine zC_of hl rfl rfl rfl (Nat.le_of_ble_eq_true rfl) (zav_r (zSt_ob hs 74 13 rfl).1 (zav_i (zav_i zav_0))) ?_
  obtain ⟨h1, h2, h3, h4, h5, h6, h7, h8⟩ := h
  cases e with
  | none =>
    refine zJ_aload_n dX13_wrong_0 rfl ?_
    refine zP_geti lf_X13_123 (zSt_ob hs 74 13 rfl) rfl dX13_wrong_1 ?_
    rw [h5]
    refine zJ_if_ne 17 dX13_wrong_4 (by decide) (fun c4 => absurd rfl c4) (fun _ => ?_)
    refine zJ_aload_n dX13_wrong_7 rfl ?_
    refine zJ_iload_n dX13_wrong_8 rfl ?_
    refine zP_puti lf_X13_123 (zSt_ob hs 74 13 rfl) rfl dX13_wrong_9 ?_
    refine zJ_aload_n dX13_wrong_12 rfl ?_
    refine zJ_iload_n dX13_wrong_13 rfl ?_
    refine zP_puti lf_X13_126 (zSt_ob hs 74 13 rfl) rfl dX13_wrong_14 ?_
    refine zJ_vret rfl dX13_wrong_17 ?_
    refine ⟨rfl, _, rfl, ⟨fun a q => by rw [zup_row q, zup_row q], fun j q1 q2 q3 => by rw [zup_same, upd_ne q3, zup_same, upd_ne q2]⟩, by rw [zup_same, upd_ne (by decide), zup_same, upd_ne (by decide)]; exact h1, h2, by rw [zup_same, upd_ne (by decide), zup_same, upd_ne (by decide)]; exact h3, h4, by rw [zup_same, upd_ne (by decide), zup_same, upd_at]; rfl, by rw [zup_same, upd_at]; rfl, fun q hq => by cases hq; exact ⟨hk, hk3⟩, fun j hj => by rw [zup_row (by decide), zup_row (by decide)]; exact h8 j hj⟩
  | some q =>
    have hq := h7 q rfl
    refine zJ_aload_n dX13_wrong_0 rfl ?_
    refine zP_geti lf_X13_123 (zSt_ob hs 74 13 rfl) rfl dX13_wrong_1 ?_
    rw [h5]
    refine zJ_if_ne 17 dX13_wrong_4 (by decide) (fun _ => ?_) (fun c4 => absurd c4 (nI_ne0 (by show 0 < q.1; omega) (by show q.1 < _; omega)))
    refine zJ_vret rfl dX13_wrong_17 ?_
    exact ⟨rfl, I, rfl, ft_rfl, h1, h2, h3, h4, h5, h6, h7, h8⟩
/-- read so far -/
def rP {α : Type} (J : zI) (bs : Nat → Nat) (L : Nat) (r : PR α) (P : α → Prop) : Prop := ∃ A, rz J bs L A (toE r) ∧ ∀ x a, r = .inr (x, a) → A = a ∧ P x
theorem rP_bind {α β : Type} {bs : Nat → Nat} {L : Nat} {q : Nat × Nat} {f : α → Nat → PR β} {P : α → Prop} {Q : β → Prop} (h : rP I bs L (.inl q : PR α) P) : rP I bs L (pbind (.inl q : PR α) f) Q := by
  obtain ⟨A, h1, h2⟩ := h
  exact ⟨A, h1, fun x a z => by cases z⟩
theorem rP_of {α : Type} {J : zI} {bs : Nat → Nat} {L : Nat} {r : PR α} {P : α → Prop} (h : rP I bs L r P) (e1 : ∀ k, k = 2 ∨ k = 4 ∨ k = 5 ∨ k = 6 → J 74 k = I 74 k) (e2 : J 75 = I 75) : rP J bs L r P := by
  obtain ⟨A, h1, h2⟩ := h
  exact ⟨A, rz_of h1 e1 e2, h2⟩
theorem rP_zup {α : Type} {bs : Nat → Nat} {L a k : Nat} {x : Int32} {r : PR α} {P : α → Prop} (h : rP I bs L r P) (ha : a ≠ 74) (ha2 : a ≠ 75) : rP (zup I a k x) bs L r P := rP_of h (fun j _ => by rw [zup_row (Ne.symm ha)]) (zup_row (Ne.symm ha2))
theorem rP_imp {α : Type} {bs : Nat → Nat} {L : Nat} {r : PR α} {P Q : α → Prop} (h : rP I bs L r P) (hq : ∀ x, P x → Q x) : rP I bs L r Q := by
  obtain ⟨A, h1, h2⟩ := h
  exact ⟨A, h1, fun x a z => ⟨(h2 x a z).1, hq x (h2 x a z).2⟩⟩
theorem rP_map {α β : Type} {bs : Nat → Nat} {L : Nat} {r : PR α} {r' : PR β} {P : α → Prop} {Q : β → Prop} (f : α → β) (h : rP I bs L r P) (e : r' = pbind r fun x A => .inr (f x, A)) (hq : ∀ x, P x → Q (f x)) : rP I bs L r' Q := by
  subst e
  obtain ⟨A, h1, h2⟩ := h
  cases r with
  | inl q => exact ⟨A, h1, fun x a z => by cases z⟩
  | inr q => exact ⟨A, h1, fun x a z => by cases z; exact ⟨(h2 q.1 q.2 rfl).1, hq _ (h2 q.1 q.2 rfl).2⟩⟩
theorem rP_ok {α : Type} {bs : Nat → Nat} {L : Nat} {x : α} {a : Nat} {P : α → Prop} (h : rP I bs L (.inr (x, a)) P) : rz I bs L a none ∧ P x := by
  obtain ⟨A, h1, h2⟩ := h
  obtain ⟨h3, h4⟩ := h2 x a rfl
  subst h3
  exact ⟨h1, h4⟩
theorem rP_mk {α : Type} {bs : Nat → Nat} {L : Nat} {x : α} {a : Nat} {P : α → Prop} (h : rz I bs L a none) (hx : P x) : rP I bs L (.inr (x, a)) P := ⟨a, h, fun y b z => by cases z; exact ⟨rfl, hx⟩⟩
theorem rP_er {α : Type} {bs : Nat → Nat} {L A : Nat} {q : Nat × Nat} {P : α → Prop} (h : rz I bs L A (some q)) : rP I bs L (.inl q : PR α) P := ⟨A, h, fun y b z => by cases z⟩
theorem dvN_min {bs : Nat → Nat} {a k c : Nat} (hc : c = min (dvN bs a k) 100000) (hd : 48 ≤ bs (a + k) ∧ bs (a + k) ≤ 57) : (if 100000 < 10 * c + (bs (a + k) - 48) then 100000 else 10 * c + (bs (a + k) - 48)) = min (dvN bs a (k + 1)) 100000 := by
  show _ = min (10 * dvN bs a k + (bs (a + k) - 48)) 100000
  split <;> omega
set_option maxHeartbeats 1000000 in
theorem m_number0 (hl : l.stackTraces = false) (hd : 3 ≤ d) (hs : zSt g) {bs : Nat → Nat} {L A lo hi : Nat} {x y : Int32} (h : rz I bs L A none) (hlo : lo ≤ 1000) (hhi : hi ≤ 1000) (hx : x = nI lo) (hy : y = nI hi - nI 1) : zEi l Xi mX13_number d [.ref 74, .int x, .int y] I g (fun x J => ft I J ∧ rP J bs L (pNum bs L lo hi A) (fun v => x = nI v ∧ lo ≤ v ∧ v < hi)) := by
  subst hx hy
  refine zC_of hl rfl rfl rfl (Nat.le_of_ble_eq_true rfl) (zav_r (zSt_ob hs 74 13 rfl).1 (zav_i (zav_i zav_0))) ?_
  have hL := h.2.1
  have hskL : sk bs L A ≤ L := sp_l h.2.2.2.1
  have hnE : nuE bs L A ≤ L := sp_l hskL
  obtain ⟨P, hP⟩ : ∃ P : zR → zH → Prop, P = (fun r' h' => ∃ x I', r' = .inl (some (.int x)) ∧ h' = (I', g) ∧ ft I I' ∧ rP I' bs L (pNum bs L lo hi A) (fun v => x = nI v ∧ lo ≤ v ∧ v < hi)) := ⟨_, rfl⟩
  have fin : ∀ (J : zI) (e : Option (Nat × Nat)) (c : Nat), ft I J → rz J bs L (nuE bs L A) e → e = (if nuE bs L A = sk bs L A then some (1, sk bs L A) else none) → c = min (nuV bs L A) 100000 → zJ l Xi mX13_number d 0 0 106 [some (.ref 74), some (.int (nI lo)), some (.int (nI hi - nI 1)), some (.int (nI (sk bs L A))), some (.int (nI c))] [] (J, g) P := by
    intro J e c hf hz he hc
    have hin : decide (¬ nI c < nI lo ∧ nI c ≤ nI hi - nI 1) = decide (lo ≤ nuV bs L A ∧ nuV bs L A < hi) := decide_eq_decide.mpr ⟨fun q => by
      have q1 : lo ≤ c := Nat.le_of_not_lt (fun z => q.1 (nI_lt z (by omega)))
      have q2 : c < hi := (nI_hi (by omega) hhi).mp q.2
      omega, fun q => ⟨nI_nlt (by omega) (by omega), (nI_hi (by omega) hhi).mpr (by omega)⟩⟩
    rw [hP]
    by_cases z : nuE bs L A = sk bs L A
    · rw [if_pos z] at he
      subst he
      have hpn : pNum bs L lo hi A = .inl (1, sk bs L A) := by unfold pNum nuX; rw [if_pos z]
      rw [hpn]
      refine zJ_iload dX13_number_106 rfl ?_
      refine zJ_iload_n dX13_number_108 rfl ?_
      refine zJ_iload_n dX13_number_109 rfl ?_
      refine zP_callSi [_, _, _] _ ls_X13_141 (k_in (d := d - 1) hl (by omega)) rfl (by omega) (Nat.le_of_ble_eq_true rfl) rfl dX13_number_110 ?_
      refine zJ_if_ne 122 dX13_number_113 (by decide) (fun c113 => ?_) (fun c113 => ?_)
      · replace c113 := zb1.mp c113
        refine zJ_aload_n dX13_number_122 rfl ?_
        refine zP_geti lf_X13_123 (zSt_ob hs 74 13 rfl) rfl dX13_number_123 ?_
        first | rw [hK.2.2.2.2.2.1] | rw [hz.2.2.2.2.1]
        refine zJ_if_ne 134 dX13_number_126 (by decide) (fun _ => ?_) (fun c126 => absurd c126 (show ¬ nI 1 = 0 by decide))
        refine zJ_iconst (v := nI 0) dX13_number_134 rfl ?_
        refine zJ_iret rfl dX13_number_135 ?_
        exact ⟨_, J, rfl, rfl, hf, rP_er hz⟩
      · replace c113 := zb0.mp c113
        refine zJ_aload_n dX13_number_116 rfl ?_
        refine zJ_iconst (v := nI 2) dX13_number_117 rfl ?_
        refine zJ_iload_n dX13_number_118 rfl ?_
        refine zP_ecallVv [_, _] _ lv_X13_136 (m_wrong (d := d - 1) hl (by omega) hs hz (by omega) (by omega) rfl) (zSt_ob hs 74 13 rfl) rfl (by omega) (Nat.le_of_ble_eq_true rfl) rfl dX13_number_119 (fun K hK => ?_)
        refine zJ_aload_n dX13_number_122 rfl ?_
        refine zP_geti lf_X13_123 (zSt_ob hs 74 13 rfl) rfl dX13_number_123 ?_
        first | rw [hK.2.2.2.2.2.1] | rw [hz.2.2.2.2.1]
        refine zJ_if_ne 134 dX13_number_126 (by decide) (fun _ => ?_) (fun c126 => absurd c126 (show ¬ nI 1 = 0 by decide))
        refine zJ_iconst (v := nI 0) dX13_number_134 rfl ?_
        refine zJ_iret rfl dX13_number_135 ?_
        exact ⟨_, K, rfl, rfl, ft_trans hf hK.1, rP_er hK.2⟩
    · rw [if_neg z] at he
      subst he
      by_cases z2 : lo ≤ nuV bs L A ∧ nuV bs L A < hi
      · have hpn : pNum bs L lo hi A = .inr (nuV bs L A, nuE bs L A) := by unfold pNum nuX; rw [if_neg z, if_neg (by omega)]
        rw [hpn]
        refine zJ_iload dX13_number_106 rfl ?_
        refine zJ_iload_n dX13_number_108 rfl ?_
        refine zJ_iload_n dX13_number_109 rfl ?_
        refine zP_callSi [_, _, _] _ ls_X13_141 (k_in (d := d - 1) hl (by omega)) rfl (by omega) (Nat.le_of_ble_eq_true rfl) rfl dX13_number_110 ?_
        rw [hin, decide_eq_true z2]
        refine zJ_if_ne 122 dX13_number_113 (by decide) (fun _ => ?_) (fun c113 => absurd c113 (by decide))
        refine zJ_aload_n dX13_number_122 rfl ?_
        refine zP_geti lf_X13_123 (zSt_ob hs 74 13 rfl) rfl dX13_number_123 ?_
        rw [hz.2.2.2.2.1]
        refine zJ_if_ne 134 dX13_number_126 (by decide) (fun c126 => absurd rfl c126) (fun _ => ?_)
        refine zJ_iload dX13_number_129 rfl ?_
        refine zJ_goto 135 dX13_number_131 (by decide) ?_
        refine zJ_iret rfl dX13_number_135 ?_
        exact ⟨_, J, rfl, rfl, hf, rP_mk hz ⟨by rw [hc, Nat.min_eq_left (by omega)], z2⟩⟩
      · have hpn : pNum bs L lo hi A = .inl (2, sk bs L A) := by unfold pNum nuX; rw [if_neg z, if_pos (by omega)]
        rw [hpn]
        refine zJ_iload dX13_number_106 rfl ?_
        refine zJ_iload_n dX13_number_108 rfl ?_
        refine zJ_iload_n dX13_number_109 rfl ?_
        refine zP_callSi [_, _, _] _ ls_X13_141 (k_in (d := d - 1) hl (by omega)) rfl (by omega) (Nat.le_of_ble_eq_true rfl) rfl dX13_number_110 ?_
        rw [hin, decide_eq_false z2]
        refine zJ_if_ne 122 dX13_number_113 (by decide) (fun c113 => absurd rfl c113) (fun _ => ?_)
        refine zJ_aload_n dX13_number_116 rfl ?_
        refine zJ_iconst (v := nI 2) dX13_number_117 rfl ?_
        refine zJ_iload_n dX13_number_118 rfl ?_
        refine zP_ecallVv [_, _] _ lv_X13_136 (m_wrong (d := d - 1) hl (by omega) hs hz (by omega) (by omega) rfl) (zSt_ob hs 74 13 rfl) rfl (by omega) (Nat.le_of_ble_eq_true rfl) rfl dX13_number_119 (fun K hK => ?_)
        refine zJ_aload_n dX13_number_122 rfl ?_
        refine zP_geti lf_X13_123 (zSt_ob hs 74 13 rfl) rfl dX13_number_123 ?_
        rw [hK.2.2.2.2.2.1]
        refine zJ_if_ne 134 dX13_number_126 (by decide) (fun _ => ?_) (fun c126 => absurd c126 (show ¬ nI 2 = 0 by decide))
        refine zJ_iconst (v := nI 0) dX13_number_134 rfl ?_
        refine zJ_iret rfl dX13_number_135 ?_
        exact ⟨_, K, rfl, rfl, ft_trans hf hK.1, rP_er hK.2⟩
  have loop : ∀ m (J : zI) (B c : Nat) (e : Option (Nat × Nat)), L - B = m → ft I J → rz J bs L B e → e = (if nuE bs L A = sk bs L A then some (1, sk bs L A) else none) → sk bs L A ≤ B → sp (dgB bs) L B = nuE bs L A → c = min (dvN bs (sk bs L A) (B - sk bs L A)) 100000 → zJ l Xi mX13_number d 0 0 44 [some (.ref 74), some (.int (nI lo)), some (.int (nI hi - nI 1)), some (.int (nI (sk bs L A))), some (.int (nI c))] [] (J, g) P := by
    intro m
    induction m with
    | zero =>
      intro J B c e hm hf hz he hB hsp hc
      have hBL := hz.2.2.2.1
      have e0 : sp (dgB bs) L B = B := sp_no (fun q => by omega)
      rw [e0] at hsp
      subst hsp
      refine zJ_aload_n dX13_number_44 rfl ?_
      refine zJ_aload_n dX13_number_45 rfl ?_
      refine zP_geti lf_X13_116 (zSt_ob hs 74 13 rfl) rfl dX13_number_46 ?_
      rw [hz.2.2.1]
      refine zP_callVi [_] _ lv_X13_119 (m_byteAt (d := d - 1) hl (by omega) hs hz (by omega)) (zSt_ob hs 74 13 rfl) rfl (by omega) (Nat.le_of_ble_eq_true rfl) rfl dX13_number_49 ?_
      refine zP_callSi [_] _ ls_X13_132 (m_isDigit (d := d - 1) hl (by omega)) rfl (by omega) (Nat.le_of_ble_eq_true rfl) rfl dX13_number_52 ?_
      rw [rng_by (fun q => by omega) (by omega) (by omega), decide_eq_false (by omega), Bool.false_and]
      refine zJ_if_eq 106 dX13_number_55 (by decide) (fun _ => ?_) (fun c55 => absurd rfl c55)
      exact fin J e c hf hz he hc
    | succ m ih =>
      intro J B c e hm hf hz he hB hsp hc
      have hb8 := fun q => (hz.2.2.2.2.2.2.2 B q).2
      by_cases hd9 : dgB bs B = true
      · have hd2 : 48 ≤ bs B ∧ bs B ≤ 57 := by simpa [dgB] using hd9
        have hsp2 := (sk_st (P := dgB bs) (by omega) hd9).trans hsp
        have hst := dvN_min (bs := bs) (a := sk bs L A) (k := B - sk bs L A) hc (by rw [show sk bs L A + (B - sk bs L A) = B by omega]; exact hd2)
        rw [show sk bs L A + (B - sk bs L A) = B by omega, show B - sk bs L A + 1 = B + 1 - sk bs L A by omega] at hst
        have hby : byC bs L B = nI (bs B) := if_pos (by omega)
        have hcle : c ≤ 100000 := by omega
        have hval : nI (10 * c) + nI (bs B) - nI 48 = nI (10 * c + (bs B - 48)) := by rw [nI_add, pk_sub (by omega)]; congr 1; omega
        have IH := ih (zup J 74 4 (nI (B + 1))) (B + 1) _ e (by omega) (ft_at hf) (rz_at hz (by omega)) he (by omega) hsp2 hst
        refine zJ_aload_n dX13_number_44 rfl ?_
        refine zJ_aload_n dX13_number_45 rfl ?_
        refine zP_geti lf_X13_116 (zSt_ob hs 74 13 rfl) rfl dX13_number_46 ?_
        rw [hz.2.2.1]
        refine zP_callVi [_] _ lv_X13_119 (m_byteAt (d := d - 1) hl (by omega) hs hz (by omega)) (zSt_ob hs 74 13 rfl) rfl (by omega) (Nat.le_of_ble_eq_true rfl) rfl dX13_number_49 ?_
        refine zP_callSi [_] _ ls_X13_132 (m_isDigit (d := d - 1) hl (by omega)) rfl (by omega) (Nat.le_of_ble_eq_true rfl) rfl dX13_number_52 ?_
        rw [rng_by hb8 (by omega) (by omega), decide_eq_true (show B < L by omega), decide_eq_true hd2.1, decide_eq_true hd2.2]
        refine zJ_if_eq 106 dX13_number_55 (by decide) (fun c55 => absurd c55 (by decide)) (fun _ => ?_)
        refine zJ_bipush (v := nI 10) dX13_number_58 rfl ?_
        refine zJ_iload dX13_number_60 rfl ?_
        refine zJ_imul dX13_number_62 ?_
        rw [pk_mul]
        refine zJ_aload_n dX13_number_63 rfl ?_
        refine zJ_aload_n dX13_number_64 rfl ?_
        refine zP_geti lf_X13_116 (zSt_ob hs 74 13 rfl) rfl dX13_number_65 ?_
        rw [hz.2.2.1]
        refine zP_callVi [_] _ lv_X13_119 (m_byteAt (d := d - 1) hl (by omega) hs hz (by omega)) (zSt_ob hs 74 13 rfl) rfl (by omega) (Nat.le_of_ble_eq_true rfl) rfl dX13_number_68 ?_
        rw [hby]
        refine zJ_iadd dX13_number_71 ?_
        refine zJ_bipush (v := nI 48) dX13_number_72 rfl ?_
        refine zJ_isub dX13_number_74 ?_
        rw [hval]
        refine zJ_istore dX13_number_75 (Nat.le_of_ble_eq_true rfl) (by decide) ?_
        refine zJ_iload dX13_number_77 rfl ?_
        refine zJ_ldc (v := (100000 : Int32)) lk_X13_140 dX13_number_79 ?_
        refine zJ_icmp_le 89 dX13_number_81 (by decide) (fun c81 => ?_) (fun c81 => ?_)
        · skip
          refine zJ_iload dX13_number_89 rfl ?_
          refine zJ_istore dX13_number_91 (Nat.le_of_ble_eq_true rfl) (by decide) ?_
          refine zJ_aload_n dX13_number_93 rfl ?_
          refine zJ_dup dX13_number_94 rfl ?_
          refine zP_geti lf_X13_116 (zSt_ob hs 74 13 rfl) rfl dX13_number_95 ?_
          rw [hz.2.2.1]
          refine zJ_iconst (v := nI 1) dX13_number_98 rfl ?_
          refine zJ_iadd dX13_number_99 ?_
          rw [nI_add]
          refine zP_puti lf_X13_116 (zSt_ob hs 74 13 rfl) rfl dX13_number_100 ?_
          refine zJ_goto 44 dX13_number_103 (by decide) ?_
          have h9 : 10 * c + (bs B - 48) ≤ 100000 := (nI_leI (by omega) (b := 100000) (by omega)).mp c81
          rw [if_neg (by omega)] at IH
          exact zJ_back (zle_r (zle_r (zle_r (zle_r (zle_r zle_0))))) rfl IH
        · skip
          refine zJ_ldc (v := (100000 : Int32)) lk_X13_140 dX13_number_84 ?_
          refine zJ_goto 91 dX13_number_86 (by decide) ?_
          refine zJ_istore dX13_number_91 (Nat.le_of_ble_eq_true rfl) (by decide) ?_
          refine zJ_aload_n dX13_number_93 rfl ?_
          refine zJ_dup dX13_number_94 rfl ?_
          refine zP_geti lf_X13_116 (zSt_ob hs 74 13 rfl) rfl dX13_number_95 ?_
          rw [hz.2.2.1]
          refine zJ_iconst (v := nI 1) dX13_number_98 rfl ?_
          refine zJ_iadd dX13_number_99 ?_
          rw [nI_add]
          refine zP_puti lf_X13_116 (zSt_ob hs 74 13 rfl) rfl dX13_number_100 ?_
          refine zJ_goto 44 dX13_number_103 (by decide) ?_
          have h9 : ¬ 10 * c + (bs B - 48) ≤ 100000 := fun q => c81 ((nI_leI (by omega) (b := 100000) (by omega)).mpr q)
          rw [if_pos (by omega)] at IH
          exact zJ_back (zle_r (zle_r (zle_r (zle_r (zle_r zle_0))))) rfl IH
      · have hdf : (decide (48 ≤ bs B) && decide (bs B ≤ 57)) = false := Bool.not_eq_true _ |>.mp hd9
        rw [sp_no (fun q => hd9 q.2)] at hsp
        subst hsp
        refine zJ_aload_n dX13_number_44 rfl ?_
        refine zJ_aload_n dX13_number_45 rfl ?_
        refine zP_geti lf_X13_116 (zSt_ob hs 74 13 rfl) rfl dX13_number_46 ?_
        rw [hz.2.2.1]
        refine zP_callVi [_] _ lv_X13_119 (m_byteAt (d := d - 1) hl (by omega) hs hz (by omega)) (zSt_ob hs 74 13 rfl) rfl (by omega) (Nat.le_of_ble_eq_true rfl) rfl dX13_number_49 ?_
        refine zP_callSi [_] _ ls_X13_132 (m_isDigit (d := d - 1) hl (by omega)) rfl (by omega) (Nat.le_of_ble_eq_true rfl) rfl dX13_number_52 ?_
        rw [rng_by hb8 (by omega) (by omega), hdf, Bool.and_false]
        refine zJ_if_eq 106 dX13_number_55 (by decide) (fun _ => ?_) (fun c55 => absurd rfl c55)
        exact fin J e c hf hz he hc
  rw [← hP]
  refine zJ_aload_n dX13_number_0 rfl ?_
  refine zP_geti lf_X13_123 (zSt_ob hs 74 13 rfl) rfl dX13_number_1 ?_
  rw [h.2.2.2.2.1]
  refine zJ_if_eq 9 dX13_number_4 (by decide) (fun _ => ?_) (fun c4 => absurd rfl c4)
  refine zJ_aload_n dX13_number_9 rfl ?_
  refine zP_ecallVv [] _ lv_X13_129 (m_blanks (d := d - 1) hl (by omega) hs h) (zSt_ob hs 74 13 rfl) rfl (by omega) (Nat.le_of_ble_eq_true rfl) rfl dX13_number_10 (fun J hJ => ?_)
  obtain ⟨hf, hz⟩ := hJ
  refine zJ_aload_n dX13_number_13 rfl ?_
  refine zP_geti lf_X13_116 (zSt_ob hs 74 13 rfl) rfl dX13_number_14 ?_
  rw [hz.2.2.1]
  refine zJ_istore_m 3 dX13_number_17 rfl (Nat.le_of_ble_eq_true rfl) (by decide) ?_
  refine zJ_iconst (v := nI 0) dX13_number_18 rfl ?_
  refine zJ_istore dX13_number_19 (Nat.le_of_ble_eq_true rfl) (by decide) ?_
  refine zJ_aload_n dX13_number_21 rfl ?_
  refine zJ_aload_n dX13_number_22 rfl ?_
  refine zP_geti lf_X13_116 (zSt_ob hs 74 13 rfl) rfl dX13_number_23 ?_
  rw [hz.2.2.1]
  refine zP_callVi [_] _ lv_X13_119 (m_byteAt (d := d - 1) hl (by omega) hs hz (by omega)) (zSt_ob hs 74 13 rfl) rfl (by omega) (Nat.le_of_ble_eq_true rfl) rfl dX13_number_26 ?_
  refine zP_callSi [_] _ ls_X13_132 (m_isDigit (d := d - 1) hl (by omega)) rfl (by omega) (Nat.le_of_ble_eq_true rfl) rfl dX13_number_29 ?_
  refine zJ_if_ne 44 dX13_number_32 (by decide) (fun c32 => ?_) (fun c32 => ?_)
  · replace c32 := zb1.mp c32
    rw [rng_by (fun q => (hz.2.2.2.2.2.2.2 _ q).2) (by omega) (by omega)] at c32
    have hne : ¬ nuE bs L A = sk bs L A := fun q => by
      rw [Bool.and_eq_true, decide_eq_true_iff] at c32
      have h1 : sp (dgB bs) L (sk bs L A + 1) = nuE bs L A := sk_st c32.1 c32.2
      have h2 : sk bs L A + 1 ≤ sp (dgB bs) L (sk bs L A + 1) := sp_g
      omega
    exact zJ_back (zle_r (zle_r (zle_r (zle_r (zle_r zle_0))))) rfl (loop _ J (sk bs L A) 0 none rfl hf hz (by rw [if_neg hne]) (Nat.le_refl _) rfl (by rw [Nat.sub_self]; rfl))
  · replace c32 := zb0.mp c32
    refine zJ_aload_n dX13_number_35 rfl ?_
    refine zJ_iconst (v := nI 1) dX13_number_36 rfl ?_
    refine zJ_aload_n dX13_number_37 rfl ?_
    refine zP_geti lf_X13_116 (zSt_ob hs 74 13 rfl) rfl dX13_number_38 ?_
    rw [hz.2.2.1]
    refine zP_ecallVv [_, _] _ lv_X13_136 (m_wrong (d := d - 1) hl (by omega) hs hz (by omega) (by omega) rfl) (zSt_ob hs 74 13 rfl) rfl (by omega) (Nat.le_of_ble_eq_true rfl) rfl dX13_number_41 (fun K hK => ?_)
    rw [rng_by (fun q => (hz.2.2.2.2.2.2.2 _ q).2) (by omega) (by omega)] at c32
    have heq : nuE bs L A = sk bs L A := sp_no (fun q => by
      have : (decide (sk bs L A < L) && (decide (48 ≤ bs (sk bs L A)) && decide (bs (sk bs L A) ≤ 57))) = true := by rw [decide_eq_true q.1]; exact q.2
      rw [this] at c32; cases c32)
    exact zJ_back (zle_r (zle_r (zle_r (zle_r (zle_r zle_0))))) rfl (loop _ K (sk bs L A) 0 _ rfl (ft_trans hf hK.1) hK.2 (by rw [if_pos heq]; rfl) (Nat.le_refl _) rfl (by rw [Nat.sub_self]; rfl))
theorem m_number1 (hl : l.stackTraces = false) (hd : 1 ≤ d) (hs : zSt g) {bs : Nat → Nat} {L A : Nat} {x y : Int32} {q : Nat × Nat} (h : rz I bs L A (some q)) : zD l Xi mX13_number d [.ref 74, .int x, .int y] I g (some (.int (nI 0))) I := by
  refine zC_of hl rfl rfl rfl (Nat.le_of_ble_eq_true rfl) (zav_r (zSt_ob hs 74 13 rfl).1 (zav_i (zav_i zav_0))) ?_
  have hq := h.2.2.2.2.2.2.1 q rfl
  refine zJ_aload_n dX13_number_0 rfl ?_
  refine zP_geti lf_X13_123 (zSt_ob hs 74 13 rfl) rfl dX13_number_1 ?_
  rw [h.2.2.2.2.1]
  refine zJ_if_eq 9 dX13_number_4 (by decide) (fun c4 => absurd c4 (nI_ne0 (by show 0 < q.1; omega) (by show q.1 < _; omega))) (fun _ => ?_)
  refine zJ_iconst (v := nI 0) dX13_number_7 rfl ?_
  refine zJ_iret rfl dX13_number_8 ?_
  exact ⟨rfl, rfl⟩
theorem m_numP (hl : l.stackTraces = false) (hd : 3 ≤ d) (hs : zSt g) {α : Type} {bs : Nat → Nat} {L lo hi : Nat} {r : PR α} {P : α → Prop} {x y : Int32} (h : rP I bs L r P) (hlo : lo ≤ 1000) (hhi : hi ≤ 1000) (hx : x = nI lo) (hy : y = nI hi - nI 1) : zEi l Xi mX13_number d [.ref 74, .int x, .int y] I g (fun x J => ft I J ∧ rP J bs L (pbind r fun y A => pbind (pNum bs L lo hi A) fun v A => .inr ((y, v), A)) (fun q => P q.1 ∧ x = nI q.2 ∧ lo ≤ q.2 ∧ q.2 < hi)) := by
  cases r with
  | inl q =>
    obtain ⟨A, h1, h2⟩ := h
    refine zC_imp (m_number1 (q := q) hl (by omega) hs h1) (fun r' h' hp => ?_)
    exact ⟨_, I, hp.1, hp.2, ft_rfl, A, h1, fun x a z => by cases z⟩
  | inr q =>
    obtain ⟨h1, h2⟩ := rP_ok h
    refine zC_imp (m_number0 hl hd hs h1 hlo hhi hx hy) (fun r' h' hp => ?_)
    obtain ⟨x, J, e1, e2, e3, e4⟩ := hp
    refine ⟨x, J, e1, e2, e3, ?_⟩
    exact rP_map (fun v => (q.1, v)) e4 rfl (fun v hv => ⟨h2, hv⟩)
theorem m_signP (hl : l.stackTraces = false) (hd : 3 ≤ d) (hs : zSt g) {α : Type} {bs : Nat → Nat} {L c : Nat} {r : PR α} {P : α → Prop} (h : rP I bs L r P) (hc : c < 256) : zEv l Xi mX13_sign d [.ref 74, .int (nI c)] I g (fun J => ft I J ∧ rP J bs L (pbind r fun x A => pbind (pSign bs L c A) fun _ A => .inr (x, A)) P) := by
  refine zC_of hl rfl rfl rfl (Nat.le_of_ble_eq_true rfl) (zav_r (zSt_ob hs 74 13 rfl).1 (zav_i zav_0)) ?_
  cases r with
  | inl q =>
    obtain ⟨A, h1, h2⟩ := h
    have hq := h1.2.2.2.2.2.2.1 q rfl
    refine zJ_aload_n dX13_sign_0 rfl ?_
    refine zP_geti lf_X13_123 (zSt_ob hs 74 13 rfl) rfl dX13_sign_1 ?_
    rw [h1.2.2.2.2.1]
    refine zJ_if_eq 8 dX13_sign_4 (by decide) (fun c4 => absurd c4 (nI_ne0 (by show 0 < q.1; omega) (by show q.1 < _; omega))) (fun _ => ?_)
    refine zJ_vret rfl dX13_sign_7 ?_
    exact ⟨rfl, I, rfl, ft_rfl, A, h1, fun x a z => by cases z⟩
  | inr q =>
    obtain ⟨h1, h2⟩ := rP_ok h
    have hL := h1.2.1
    have hskL : sk bs L q.2 ≤ L := sp_l h1.2.2.2.1
    refine zJ_aload_n dX13_sign_0 rfl ?_
    refine zP_geti lf_X13_123 (zSt_ob hs 74 13 rfl) rfl dX13_sign_1 ?_
    rw [h1.2.2.2.2.1]
    refine zJ_if_eq 8 dX13_sign_4 (by decide) (fun _ => ?_) (fun c4 => absurd rfl c4)
    refine zJ_aload_n dX13_sign_8 rfl ?_
    refine zP_ecallVv [] _ lv_X13_129 (m_blanks (d := d - 1) hl (by omega) hs h1) (zSt_ob hs 74 13 rfl) rfl (by omega) (Nat.le_of_ble_eq_true rfl) rfl dX13_sign_9 (fun J hJ => ?_)
    obtain ⟨hf, hz⟩ := hJ
    refine zJ_aload_n dX13_sign_12 rfl ?_
    refine zJ_aload_n dX13_sign_13 rfl ?_
    refine zP_geti lf_X13_116 (zSt_ob hs 74 13 rfl) rfl dX13_sign_14 ?_
    rw [hz.2.2.1]
    refine zP_callVi [_] _ lv_X13_119 (m_byteAt (d := d - 1) hl (by omega) hs hz (by omega)) (zSt_ob hs 74 13 rfl) rfl (by omega) (Nat.le_of_ble_eq_true rfl) rfl dX13_sign_17 ?_
    refine zJ_iload_n dX13_sign_20 rfl ?_
    refine zJ_icmp_ne 37 dX13_sign_21 (by decide) (fun c21 => ?_) (fun c21 => ?_)
    · skip
      refine zJ_aload_n dX13_sign_37 rfl ?_
      refine zJ_iconst (v := nI 1) dX13_sign_38 rfl ?_
      refine zJ_aload_n dX13_sign_39 rfl ?_
      refine zP_geti lf_X13_116 (zSt_ob hs 74 13 rfl) rfl dX13_sign_40 ?_
      rw [hz.2.2.1]
      refine zP_ecallVv [_, _] _ lv_X13_136 (m_wrong (d := d - 1) hl (by omega) hs hz (by omega) (by omega) rfl) (zSt_ob hs 74 13 rfl) rfl (by omega) (Nat.le_of_ble_eq_true rfl) rfl dX13_sign_43 (fun K hK => ?_)
      refine zJ_vret rfl dX13_sign_46 ?_
      have hn : hitB bs L (sk bs L q.2) c = false := by
        cases z : hitB bs L (sk bs L q.2) c with
        | false => rfl
        | true => exact absurd ((by_eq (fun y => (hz.2.2.2.2.2.2.2 _ y).2) hc).mpr z) c21
      refine ⟨rfl, K, rfl, ft_trans hf hK.1, ?_⟩
      simp only [pbind]
      unfold pSign
      rw [hn]
      exact rP_er hK.2
    · skip
      refine zJ_aload_n dX13_sign_24 rfl ?_
      refine zJ_dup dX13_sign_25 rfl ?_
      refine zP_geti lf_X13_116 (zSt_ob hs 74 13 rfl) rfl dX13_sign_26 ?_
      rw [hz.2.2.1]
      refine zJ_iconst (v := nI 1) dX13_sign_29 rfl ?_
      refine zJ_iadd dX13_sign_30 ?_
      rw [nI_add]
      refine zP_puti lf_X13_116 (zSt_ob hs 74 13 rfl) rfl dX13_sign_31 ?_
      refine zJ_goto 46 dX13_sign_34 (by decide) ?_
      refine zJ_vret rfl dX13_sign_46 ?_
      have hy := (by_eq (fun y => (hz.2.2.2.2.2.2.2 _ y).2) hc).mp c21
      have hlt : sk bs L q.2 < L := by unfold hitB at hy; rw [Bool.and_eq_true, decide_eq_true_iff] at hy; exact hy.1
      refine ⟨rfl, _, rfl, ft_at hf, ?_⟩
      simp only [pbind]
      unfold pSign
      rw [hy]
      exact rP_mk (rz_at hz (by omega)) h2
theorem m_takesSign (hl : l.stackTraces = false) (hd : 3 ≤ d) (hs : zSt g) {bs : Nat → Nat} {L A c : Nat} (h1 : rz I bs L A none) (hc : c < 256) : zEi l Xi mX13_takesSign d [.ref 74, .int (nI c)] I g (fun v J => v = (if hitB bs L (sk bs L A) c then 1 else 0) ∧ ft I J ∧ rz J bs L (if hitB bs L (sk bs L A) c then sk bs L A + 1 else sk bs L A) none) := by
  refine zC_of hl rfl rfl rfl (Nat.le_of_ble_eq_true rfl) (zav_r (zSt_ob hs 74 13 rfl).1 (zav_i zav_0)) ?_
  have hL := h1.2.1
  have hskL : sk bs L A ≤ L := sp_l h1.2.2.2.1
  cases hh : hitB bs L (sk bs L A) c with
  | false =>
    refine zJ_aload_n dX13_takesSign_0 rfl ?_
    refine zP_geti lf_X13_123 (zSt_ob hs 74 13 rfl) rfl dX13_takesSign_1 ?_
    rw [h1.2.2.2.2.1]
    refine zJ_if_eq 9 dX13_takesSign_4 (by decide) (fun _ => ?_) (fun c4 => absurd rfl c4)
    refine zJ_aload_n dX13_takesSign_9 rfl ?_
    refine zP_ecallVv [] _ lv_X13_129 (m_blanks (d := d - 1) hl (by omega) hs h1) (zSt_ob hs 74 13 rfl) rfl (by omega) (Nat.le_of_ble_eq_true rfl) rfl dX13_takesSign_10 (fun J hJ => ?_)
    obtain ⟨hf, hz⟩ := hJ
    refine zJ_aload_n dX13_takesSign_13 rfl ?_
    refine zJ_aload_n dX13_takesSign_14 rfl ?_
    refine zP_geti lf_X13_116 (zSt_ob hs 74 13 rfl) rfl dX13_takesSign_15 ?_
    rw [hz.2.2.1]
    refine zP_callVi [_] _ lv_X13_119 (m_byteAt (d := d - 1) hl (by omega) hs hz (by omega)) (zSt_ob hs 74 13 rfl) rfl (by omega) (Nat.le_of_ble_eq_true rfl) rfl dX13_takesSign_18 ?_
    refine zJ_iload_n dX13_takesSign_21 rfl ?_
    refine zJ_icmp_ne 29 dX13_takesSign_22 (by decide) (fun _ => ?_) (fun c22 => absurd c22 (fun z => by rw [by_eq (fun y => (hz.2.2.2.2.2.2.2 _ y).2) hc, hh] at z; cases z))
    refine zJ_iconst (v := nI 0) dX13_takesSign_29 rfl ?_
    refine zJ_istore_m 2 dX13_takesSign_30 rfl (Nat.le_of_ble_eq_true rfl) (by decide) ?_
    refine zJ_iload_n dX13_takesSign_31 rfl ?_
    refine zJ_if_eq 45 dX13_takesSign_32 (by decide) (fun _ => ?_) (fun c32 => absurd rfl c32)
    refine zJ_iload_n dX13_takesSign_45 rfl ?_
    refine zJ_zret rfl (by decide) dX13_takesSign_46 ?_
    exact ⟨_, J, rfl, rfl, rfl, hf, hz⟩
  | true =>
    have hlt : sk bs L A < L := by unfold hitB at hh; rw [Bool.and_eq_true, decide_eq_true_iff] at hh; exact hh.1
    refine zJ_aload_n dX13_takesSign_0 rfl ?_
    refine zP_geti lf_X13_123 (zSt_ob hs 74 13 rfl) rfl dX13_takesSign_1 ?_
    rw [h1.2.2.2.2.1]
    refine zJ_if_eq 9 dX13_takesSign_4 (by decide) (fun _ => ?_) (fun c4 => absurd rfl c4)
    refine zJ_aload_n dX13_takesSign_9 rfl ?_
    refine zP_ecallVv [] _ lv_X13_129 (m_blanks (d := d - 1) hl (by omega) hs h1) (zSt_ob hs 74 13 rfl) rfl (by omega) (Nat.le_of_ble_eq_true rfl) rfl dX13_takesSign_10 (fun J hJ => ?_)
    obtain ⟨hf, hz⟩ := hJ
    refine zJ_aload_n dX13_takesSign_13 rfl ?_
    refine zJ_aload_n dX13_takesSign_14 rfl ?_
    refine zP_geti lf_X13_116 (zSt_ob hs 74 13 rfl) rfl dX13_takesSign_15 ?_
    rw [hz.2.2.1]
    refine zP_callVi [_] _ lv_X13_119 (m_byteAt (d := d - 1) hl (by omega) hs hz (by omega)) (zSt_ob hs 74 13 rfl) rfl (by omega) (Nat.le_of_ble_eq_true rfl) rfl dX13_takesSign_18 ?_
    refine zJ_iload_n dX13_takesSign_21 rfl ?_
    refine zJ_icmp_ne 29 dX13_takesSign_22 (by decide) (fun c22 => absurd ((by_eq (fun y => (hz.2.2.2.2.2.2.2 _ y).2) hc).mpr hh) c22) (fun _ => ?_)
    refine zJ_iconst (v := nI 1) dX13_takesSign_25 rfl ?_
    refine zJ_goto 30 dX13_takesSign_26 (by decide) ?_
    refine zJ_istore_m 2 dX13_takesSign_30 rfl (Nat.le_of_ble_eq_true rfl) (by decide) ?_
    refine zJ_iload_n dX13_takesSign_31 rfl ?_
    refine zJ_if_eq 45 dX13_takesSign_32 (by decide) (fun c32 => absurd c32 (by decide)) (fun _ => ?_)
    refine zJ_aload_n dX13_takesSign_35 rfl ?_
    refine zJ_dup dX13_takesSign_36 rfl ?_
    refine zP_geti lf_X13_116 (zSt_ob hs 74 13 rfl) rfl dX13_takesSign_37 ?_
    rw [hz.2.2.1]
    refine zJ_iconst (v := nI 1) dX13_takesSign_40 rfl ?_
    refine zJ_iadd dX13_takesSign_41 ?_
    rw [nI_add]
    refine zP_puti lf_X13_116 (zSt_ob hs 74 13 rfl) rfl dX13_takesSign_42 ?_
    refine zJ_iload_n dX13_takesSign_45 rfl ?_
    refine zJ_zret rfl (by decide) dX13_takesSign_46 ?_
    exact ⟨_, _, rfl, rfl, rfl, ft_at hf, rz_at hz (by omega)⟩
end ZRefAD
