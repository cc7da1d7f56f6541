/-! ===== a law's text: what it emits ===== -/
section ZLawS
variable {bs : Nat → Nat} {L : Nat}
/-- the names: past over crit round wide col row pins; 8 none -/
def kdN (bs : Nat → Nat) (a w : Nat) : Nat := if wdB bs a w 6 then 0 else if wdB bs a w 7 then 1 else if wdB bs a w 8 then 2 else if wdB bs a w 9 then 3 else if wdB bs a w 2 then 4 else if wdB bs a w 10 then 5 else if wdB bs a w 11 then 6 else if wdB bs a w 12 then 7 else 8
/-- 0 a sum, 1 a sum's rest, 2 a product, 3 its rest, else a unit -/
def pL (bs : Nat → Nat) (L : Nat) : Nat → Nat → Nat → Nat → PR (List Int32)
  | 0, _, _, _ => .inl (0, 0)
  | f + 1, m, o, A =>
    if m = 0 then pbind (pL bs L f 2 o A) fun c A => pbind (pL bs L f 1 o A) fun c' A => .inr (c ++ c', A)
    else if m = 1 then
      if hitB bs L (sk bs L A) 43 then pbind (pL bs L f 2 o (sk bs L A + 1)) fun c A => pbind (pL bs L f 1 o A) fun c' A => .inr (c ++ [nI 2000] ++ c', A)
      else if hitB bs L (sk bs L A) 45 then pbind (pL bs L f 2 o (sk bs L A + 1)) fun c A => pbind (pL bs L f 1 o A) fun c' A => .inr (c ++ [nI 2001] ++ c', A)
      else .inr ([], sk bs L A)
    else if m = 2 then pbind (pL bs L f 4 o A) fun c A => pbind (pL bs L f 3 o A) fun c' A => .inr (c ++ c', A)
    else if m = 3 then
      if hitB bs L (sk bs L A) 42 then pbind (pL bs L f 4 o (sk bs L A + 1)) fun c A => pbind (pL bs L f 3 o A) fun c' A => .inr (c ++ [nI 2002] ++ c', A)
      else if hitB bs L (sk bs L A) 47 then pbind (pL bs L f 4 o (sk bs L A + 1)) fun c A => pbind (pL bs L f 3 o A) fun c' A => .inr (c ++ [nI 2003] ++ c', A)
      else if hitB bs L (sk bs L A) 37 then pbind (pL bs L f 4 o (sk bs L A + 1)) fun c A => pbind (pL bs L f 3 o A) fun c' A => .inr (c ++ [nI 2004] ++ c', A)
      else .inr ([], sk bs L A)
    else if decide (sk bs L A < L) && dgB bs (sk bs L A) then pbind (pNum bs L 0 1000 A) fun v A => .inr ([nI v], A)
    else if hitB bs L (sk bs L A) 40 then (if 6 ≤ o then .inl (3, sk bs L A) else pbind (pL bs L f 0 (o + 1) (sk bs L A + 1)) fun c A => pbind (pSign bs L 41 A) fun _ A => .inr (c, A))
    else if wdB bs (sk bs L A) (woE bs L A) 13 || wdB bs (sk bs L A) (woE bs L A) 14 then
      (if 6 ≤ o then .inl (3, sk bs L A) else pbind (pSign bs L 91 (woE bs L A)) fun _ A1 => pbind (pL bs L f 0 (o + 1) A1) fun c A1 => pbind (pSign bs L 44 A1) fun _ A1 => pbind (pL bs L f 0 (o + 1) A1) fun c' A1 => pbind (pSign bs L 93 A1) fun _ A1 => .inr (c ++ c' ++ [if wdB bs (sk bs L A) (woE bs L A) 13 then nI 2005 else nI 2006], A1))
    else if kdN bs (sk bs L A) (woE bs L A) = 8 then .inl (1, sk bs L A) else .inr ([nI (1000 + kdN bs (sk bs L A) (woE bs L A))], woE bs L A)
theorem pbind_ok {α β : Type} {r : PR α} {f : α → Nat → PR β} {y : β} {b : Nat} (h : pbind r f = .inr (y, b)) : ∃ x a, r = .inr (x, a) ∧ f x a = .inr (y, b) := by
  cases r with
  | inl q => cases h
  | inr q => exact ⟨q.1, q.2, rfl, h⟩
theorem hit_lt {a c : Nat} (h : hitB bs L a c = true) : a < L := by
  simp only [hitB, Bool.and_eq_true, decide_eq_true_eq] at h
  exact h.1
theorem pSign_ok {c A A' : Nat} {u : Unit} (h : pSign bs L c A = .inr (u, A')) : A < A' ∧ A' ≤ L := by
  unfold pSign at h
  have hg : A ≤ sk bs L A := sp_g
  split at h
  · next z =>
    have := hit_lt z
    cases h
    omega
  · cases h
theorem pNum_ok {lo hi A A' v : Nat} (h : pNum bs L lo hi A = .inr (v, A')) (hA : A ≤ L) : A < A' ∧ A' ≤ L ∧ lo ≤ v ∧ v < hi := by
  unfold pNum at h
  have hg : A ≤ sk bs L A := sp_g
  have hg2 : sk bs L A ≤ nuE bs L A := sp_g
  have hl : nuE bs L A ≤ L := sp_l (sp_l hA)
  cases e : nuX bs L A lo hi with
  | some q => rw [e] at h; cases h
  | none =>
    rw [e] at h
    cases h
    unfold nuX at e
    split at e
    · cases e
    · next z =>
      split at e
      · cases e
      · next y => omega
theorem wd_len {a w i : Nat} (hi : i < 20) (h : wdB bs a w i = true) : a + 3 ≤ w := by
  unfold wdB at h
  rw [Bool.and_eq_true] at h
  have h1 := of_decide_eq_true h.1
  have hd : ∀ i, i < 20 → 3 ≤ (zbyt.getD i []).length := by decide
  have := hd i hi
  omega
theorem kdN_len {a w : Nat} (h : ¬ kdN bs a w = 8) : a + 3 ≤ w ∧ kdN bs a w < 8 := by
  unfold kdN at *
  repeat' split at h
  all_goals first
    | (next z => exact absurd rfl h)
    | skip
  all_goals (next z => constructor; exact wd_len (by decide) z; simp [*])
theorem pL_ok {f m o A A' : Nat} {c : List Int32} (h : pL bs L f m o A = .inr (c, A')) (hA : A ≤ L) : A + c.length ≤ A' ∧ A' ≤ L ∧ ((m ≠ 1 ∧ m ≠ 3) → 1 ≤ c.length) := by
  induction f generalizing m o A A' c with
  | zero => cases h
  | succ f ih =>
    have hg : A ≤ sk bs L A := sp_g
    have hl : sk bs L A ≤ L := sp_l hA
    have two : ∀ {m1 m2 B : Nat} {x : List Int32}, B ≤ L → ((m1 ≠ 1 ∧ m1 ≠ 3)) → (pbind (pL bs L f m1 o B) fun c A => pbind (pL bs L f m2 o A) fun c' A => .inr (c ++ x ++ c', A)) = .inr (c, A') → B + c.length ≤ A' + x.length ∧ A' ≤ L ∧ 1 ≤ c.length := by
      intro m1 m2 B x hB hm hh
      obtain ⟨c1, a1, e1, hh⟩ := pbind_ok hh
      obtain ⟨c2, a2, e2, hh⟩ := pbind_ok hh
      cases hh
      obtain ⟨i1, i2, i3⟩ := ih e1 hB
      obtain ⟨j1, j2, -⟩ := ih e2 i2
      have := i3 hm
      simp only [List.length_append]
      omega
    rw [pL] at h
    by_cases m0 : m = 0
    · rw [if_pos m0] at h
      have := two (m1 := 2) (m2 := 1) (x := []) hA (by decide) (by simpa using h)
      simp only [List.length_nil] at this
      omega
    rw [if_neg m0] at h
    by_cases m1 : m = 1
    · rw [if_pos m1] at h
      split at h
      · next z => have := hit_lt z; have := two (x := [nI 2000]) (by omega) (by decide) h; simp only [List.length_singleton] at this; omega
      · split at h
        · next z => have := hit_lt z; have := two (x := [nI 2001]) (by omega) (by decide) h; simp only [List.length_singleton] at this; omega
        · cases h; simp only [List.length_nil]; omega
    rw [if_neg m1] at h
    by_cases m2 : m = 2
    · rw [if_pos m2] at h
      have := two (m1 := 4) (m2 := 3) (x := []) hA (by decide) (by simpa using h)
      simp only [List.length_nil] at this
      omega
    rw [if_neg m2] at h
    by_cases m3 : m = 3
    · rw [if_pos m3] at h
      split at h
      · next z => have := hit_lt z; have := two (x := [nI 2002]) (by omega) (by decide) h; simp only [List.length_singleton] at this; omega
      · split at h
        · next z => have := hit_lt z; have := two (x := [nI 2003]) (by omega) (by decide) h; simp only [List.length_singleton] at this; omega
        · split at h
          · next z => have := hit_lt z; have := two (x := [nI 2004]) (by omega) (by decide) h; simp only [List.length_singleton] at this; omega
          · cases h; simp only [List.length_nil]; omega
    rw [if_neg m3] at h
    have hw : sk bs L A ≤ woE bs L A := sp_g
    have hwl : woE bs L A ≤ L := sp_l hl
    split at h
    · obtain ⟨v, a1, e1, hh⟩ := pbind_ok h
      cases hh
      have := pNum_ok e1 hA
      simp only [List.length_singleton]
      omega
    · split at h
      · next z =>
        have := hit_lt z
        split at h
        · cases h
        · obtain ⟨c1, a1, e1, hh⟩ := pbind_ok h
          obtain ⟨u, a2, e2, hh⟩ := pbind_ok hh
          cases hh
          obtain ⟨i1, i2, i3⟩ := ih e1 (by omega)
          have := pSign_ok e2
          have := i3 (by decide)
          omega
      · split at h
        · next z =>
          split at h
          · cases h
          · obtain ⟨u0, a0, e0, hh⟩ := pbind_ok h
            obtain ⟨c1, a1, e1, hh⟩ := pbind_ok hh
            obtain ⟨u1, a2, e2, hh⟩ := pbind_ok hh
            obtain ⟨c2, a3, e3, hh⟩ := pbind_ok hh
            obtain ⟨u2, a4, e4, hh⟩ := pbind_ok hh
            cases hh
            have p0 := pSign_ok e0
            obtain ⟨i1, i2, i3⟩ := ih e1 p0.2
            have p2 := pSign_ok e2
            obtain ⟨j1, j2, j3⟩ := ih e3 p2.2
            have p4 := pSign_ok e4
            simp only [List.length_append, List.length_singleton]
            omega
        · split at h
          · cases h
          · next z =>
            cases h
            have := kdN_len z
            simp only [List.length_singleton]
            omega
def bndL (L m A : Nat) : Nat := 3 * (L - A) + (if m = 0 then 3 else if m = 2 then 2 else 1)
theorem pbind_ne {α β : Type} {r : PR α} {f : α → Nat → PR β} {q : Nat × Nat} (h1 : r ≠ .inl q) (h2 : ∀ x a, r = .inr (x, a) → f x a ≠ .inl q) : pbind r f ≠ .inl q := by
  cases r with
  | inl w => exact fun z => h1 (by cases z; rfl)
  | inr w => exact h2 w.1 w.2 rfl
theorem pSign_ne {c A : Nat} : pSign bs L c A ≠ .inl (0, 0) := by
  unfold pSign
  split
  · exact fun z => by cases z
  · exact fun z => by cases z
theorem pNum_ne {lo hi A : Nat} : pNum bs L lo hi A ≠ .inl (0, 0) := by
  unfold pNum
  cases e : nuX bs L A lo hi with
  | none => exact fun z => by cases z
  | some q =>
    intro z
    cases z
    unfold nuX at e
    split at e
    · cases e
    · split at e
      · cases e
      · cases e
theorem inr_ne {α : Type} {x : α × Nat} {q : Nat × Nat} : (.inr x : PR α) ≠ .inl q := fun z => by cases z
theorem pL_fuel {f m o A : Nat} (hA : A ≤ L) (hf : bndL L m A ≤ f) : pL bs L f m o A ≠ .inl (0, 0) := by
  induction f generalizing m o A with
  | zero => unfold bndL at hf; split at hf; omega; split at hf <;> omega
  | succ f ih =>
    have hg : A ≤ sk bs L A := sp_g
    have hl : sk bs L A ≤ L := sp_l hA
    have two : ∀ {m1 m2 B : Nat} {g : List Int32 → List Int32 → List Int32}, B ≤ L → (m1 ≠ 1 ∧ m1 ≠ 3) → bndL L m1 B ≤ f → (∀ A', B < A' → bndL L m2 A' ≤ f) → (pbind (pL bs L f m1 o B) fun c A => pbind (pL bs L f m2 o A) fun c' A => (.inr (g c c', A) : PR (List Int32))) ≠ .inl (0, 0) := by
      intro m1 m2 B g hB hm h1 h2
      refine pbind_ne (ih hB h1) (fun c a e => pbind_ne (ih (pL_ok e hB).2.1 (h2 a ?_)) (fun _ _ _ => inr_ne))
      have := pL_ok e hB
      have := this.2.2 hm
      omega
    rw [pL]
    by_cases m0 : m = 0
    · rw [if_pos m0]
      subst m0
      refine two (g := fun c c' => c ++ c') hA (by decide) (by simp only [bndL] at hf ⊢; simp at hf ⊢; omega) (fun A' h => by simp only [bndL] at hf ⊢; simp at hf ⊢; omega)
    rw [if_neg m0]
    by_cases m1 : m = 1
    · rw [if_pos m1]
      subst m1
      have hb : ∀ A', A < A' → bndL L 1 A' ≤ f ∨ L ≤ A := fun A' h => by simp only [bndL] at hf ⊢; simp at hf ⊢; omega
      split
      · next z => have := hit_lt z; exact two (g := fun c c' => c ++ [nI 2000] ++ c') (by omega) (by decide) (by simp only [bndL] at hf ⊢; simp at hf ⊢; omega) (fun A' h => by simp only [bndL] at hf ⊢; simp at hf ⊢; omega)
      · split
        · next z => have := hit_lt z; exact two (g := fun c c' => c ++ [nI 2001] ++ c') (by omega) (by decide) (by simp only [bndL] at hf ⊢; simp at hf ⊢; omega) (fun A' h => by simp only [bndL] at hf ⊢; simp at hf ⊢; omega)
        · exact inr_ne
    rw [if_neg m1]
    by_cases m2 : m = 2
    · rw [if_pos m2]
      subst m2
      refine two (g := fun c c' => c ++ c') hA (by decide) (by simp only [bndL] at hf ⊢; simp at hf ⊢; omega) (fun A' h => by simp only [bndL] at hf ⊢; simp at hf ⊢; omega)
    rw [if_neg m2]
    by_cases m3 : m = 3
    · rw [if_pos m3]
      subst m3
      split
      · next z => have := hit_lt z; exact two (g := fun c c' => c ++ [nI 2002] ++ c') (by omega) (by decide) (by simp only [bndL] at hf ⊢; simp at hf ⊢; omega) (fun A' h => by simp only [bndL] at hf ⊢; simp at hf ⊢; omega)
      · split
        · next z => have := hit_lt z; exact two (g := fun c c' => c ++ [nI 2003] ++ c') (by omega) (by decide) (by simp only [bndL] at hf ⊢; simp at hf ⊢; omega) (fun A' h => by simp only [bndL] at hf ⊢; simp at hf ⊢; omega)
        · split
          · next z => have := hit_lt z; exact two (g := fun c c' => c ++ [nI 2004] ++ c') (by omega) (by decide) (by simp only [bndL] at hf ⊢; simp at hf ⊢; omega) (fun A' h => by simp only [bndL] at hf ⊢; simp at hf ⊢; omega)
          · exact inr_ne
    rw [if_neg m3]
    have hb : ∀ A', A < A' → A < L → bndL L 0 A' ≤ f := fun A' h h2 => by unfold bndL at hf ⊢; rw [if_neg m0, if_neg m2] at hf; simp; omega
    have hw : sk bs L A ≤ woE bs L A := sp_g
    have hwl : woE bs L A ≤ L := sp_l hl
    split
    · exact pbind_ne pNum_ne (fun _ _ _ => inr_ne)
    · split
      · next z =>
        have := hit_lt z
        split
        · exact fun z => by cases z
        · exact pbind_ne (ih (by omega) (hb _ (by omega) (by omega))) (fun c a e => pbind_ne pSign_ne (fun _ _ _ => inr_ne))
      · split
        · next z =>
          split
          · exact fun z => by cases z
          · refine pbind_ne pSign_ne (fun u a e => ?_)
            have p0 := pSign_ok e
            refine pbind_ne (ih p0.2 (hb _ (by omega) (by omega))) (fun c a1 e1 => ?_)
            have p1 := pL_ok e1 p0.2
            refine pbind_ne pSign_ne (fun u a2 e2 => ?_)
            have p2 := pSign_ok e2
            refine pbind_ne (ih p2.2 (hb _ (by omega) (by omega))) (fun c a3 e3 => pbind_ne pSign_ne (fun _ _ _ => inr_ne))
        · split
          · exact fun z => by cases z
          · exact inr_ne
end ZLawS
