/-! ===== a search: its steps; laws that stand ===== -/
def cB (f : Nat → Bool) : Nat → Nat
  | 0 => 0
  | n + 1 => cB f n + if f n then 1 else 0
theorem cB_le {f : Nat → Bool} : ∀ {n : Nat}, cB f n ≤ n
  | 0 => Nat.le_refl _
  | n + 1 => by
    have := cB_le (f := f) (n := n)
    simp only [cB]
    split <;> omega
def setB (f : Nat → Bool) (i : Nat) : Nat → Bool := fun k => if k = i then true else f k
theorem cB_out {f : Nat → Bool} {i : Nat} : ∀ {n : Nat}, n ≤ i → cB (setB f i) n = cB f n
  | 0, _ => rfl
  | n + 1, h => by
    simp only [cB, cB_out (f := f) (n := n) (show n ≤ i by omega), setB, if_neg (show n ≠ i by omega)]
theorem cB_set {f : Nat → Bool} {i : Nat} : ∀ {n : Nat}, i < n → f i = false → cB (setB f i) n = cB f n + 1
  | n + 1, h, hf => by
    by_cases e : i = n
    · subst e
      simp only [cB, cB_out (Nat.le_refl i), setB, if_true, hf]
      simp
    · simp only [cB, cB_set (n := n) (show i < n by omega) hf, setB, if_neg (show n ≠ i by omega)]
      omega
/-- as dkI, with the edges that have been gone over told by R, how far at most, no one waits as near as he was gone through -/
def dkK (T wl : Nat → Bool) (c : Nat → Nat) (D F : Nat → Option Nat) (P : Nat → Bool) (S R : Nat → Nat → Prop) : Prop :=
  (∀ p a, p < 64 → F p = some a → (∃ b, D p = some b ∧ b ≤ a) ∧ a ≤ 999 * cB P 64) ∧ (∀ p, p < 64 → T p = true → F p = some 0) ∧
  (∀ p a, p < 64 → P p = false → F p = some a → S a p) ∧
  (∀ a p, S a p → p < 64 ∧ a ≤ 64000 ∧ ∃ a', F p = some a' ∧ a' ≤ a) ∧
  (∀ p, P p = true → p < 64 ∧ F p = D p ∧ ∀ a q, F p = some a → q < 64 → R p q → wl q = false → ∃ b, F q = some b ∧ b ≤ a + c q) ∧
  (∀ p a, P p = true → F p = some a → ¬ S a p)
theorem dkK_I {T wl : Nat → Bool} {ad : Nat → Nat → Prop} {c : Nat → Nat} {D F : Nat → Option Nat} {P : Nat → Bool} {S : Nat → Nat → Prop} (h : dkK T wl c D F P S ad) : dkI T wl ad c D F (fun p => P p = true) S := by
  refine ⟨fun p a hp e => (h.1 p a hp e).1, h.2.1, fun p a hp hn e => h.2.2.1 p a hp (by simpa using hn) e, fun a p hs => ⟨(h.2.2.2.1 a p hs).1, (h.2.2.2.1 a p hs).2.2⟩, fun p hp => h.2.2.2.2.1 p hp⟩
/-- a stale one is taken out -/
theorem dkK_stale {T wl : Nat → Bool} {ad : Nat → Nat → Prop} {c : Nat → Nat} {D F : Nat → Option Nat} {P : Nat → Bool} {S : Nat → Nat → Prop} {a p a1 : Nat} (h : dkK T wl c D F P S ad) (hf : F p = some a1) (hlt : a1 < a) : dkK T wl c D F P (fun x y => S x y ∧ ¬ (x = a ∧ y = p)) ad := by
  obtain ⟨h1, h2, h3, h4, h5, h6⟩ := h
  refine ⟨h1, h2, fun q b hq hP e => ⟨h3 q b hq hP e, fun z => ?_⟩, fun x y hs => h4 x y hs.1, h5, fun q b hP e hs => h6 q b hP e hs.1⟩
  obtain ⟨z1, z2⟩ := z
  subst z1 z2
  rw [hf] at e
  cases e
  omega
/-- the nearest is taken out to be gone through -/
theorem dkK_take {T wl : Nat → Bool} {ad : Nat → Nat → Prop} {c : Nat → Nat} {D F : Nat → Option Nat} {P : Nat → Bool} {S : Nat → Nat → Prop} {a p : Nat} (h : dkK T wl c D F P S ad) (hS : S a p) (hf : F p = some a) (hD : D p = some a) : P p = false ∧ dkK T wl c D F (setB P p) (fun x y => S x y ∧ ¬ (x = a ∧ y = p)) (fun x y => ad x y ∧ x ≠ p) ∧ a ≤ 999 * cB P 64 := by
  obtain ⟨h1, h2, h3, h4, h5, h6⟩ := h
  have hp := (h4 a p hS).1
  have hP : P p = false := by
    cases e : P p with
    | false => rfl
    | true => exact absurd hS (h6 p a e hf)
  refine ⟨hP, ⟨fun q b hq e => ⟨(h1 q b hq e).1, ?_⟩, h2, fun q b hq hPq e => ⟨h3 q b hq ?_ e, fun z => ?_⟩, fun x y hs => h4 x y hs.1, fun q hPq => ?_, fun q b hPq e hs => ?_⟩, (h1 p a hp hf).2⟩
  · have := (h1 q b hq e).2
    rw [cB_set hp hP]
    omega
  · by_cases e1 : q = p
    · subst e1; simp [setB] at hPq
    · simpa [setB, e1] using hPq
  · rw [z.2] at hPq; simp [setB] at hPq
  · by_cases e1 : q = p
    · subst e1
      exact ⟨hp, by rw [hf, hD], fun b y e hy hR => absurd rfl hR.2⟩
    · obtain ⟨g1, g2, g3⟩ := h5 q (by simpa [setB, e1] using hPq)
      exact ⟨g1, g2, fun b y e hy hR hw => g3 b y e hy hR.1 hw⟩
  · by_cases e1 : q = p
    · subst e1
      rw [hf] at e
      cases e
      exact hs.2 ⟨rfl, rfl⟩
    · exact h6 q b (by simpa [setB, e1] using hPq) e hs.1
def setO (F : Nat → Option Nat) (q a : Nat) : Nat → Option Nat := fun k => if k = q then some a else F k
/-- a neighbour comes nearer -/
theorem dkK_better {T wl : Nat → Bool} {ad R : Nat → Nat → Prop} {c : Nat → Nat} {D F : Nat → Option Nat} {P : Nat → Bool} {S : Nat → Nat → Prop} {a p q : Nat} (hc : ∀ p, p < 64 → c p ≤ 999) (hF : FPd T wl ad c D) (h : dkK T wl c D F P S R) (hP : P p = true) (hf : F p = some a) (ha : a + c q ≤ 999 * cB P 64) (hq : q < 64) (had : ad p q) (hw : wl q = false) (hb : ∀ b, F q = some b → a + c q < b) : ¬ S (a + c q) q ∧ dkK T wl c D (setO F q (a + c q)) P (fun x y => S x y ∨ (x = a + c q ∧ y = q)) (fun x y => R x y ∨ (x = p ∧ y = q)) := by
  obtain ⟨h1, h2, h3, h4, h5, h6⟩ := h
  have hp := (h5 p hP).1
  have hDp : D p = some a := by rw [← (h5 p hP).2.1, hf]
  have hTq : T q = false := by
    cases e : T q with
    | false => rfl
    | true =>
      have := hb 0 (h2 q hq e)
      omega
  obtain ⟨bq, hbq, hbq2⟩ := ((hF q hq).2.2 hTq hw).1 p a hp had hDp
  have hPq : P q = false := by
    cases e : P q with
    | false => rfl
    | true =>
      have := hb bq (by rw [(h5 q e).2.1, hbq])
      omega
  have hpq : p ≠ q := fun e => by rw [e, hPq] at hP; cases hP
  refine ⟨fun hs => ?_, fun x b hx e => ?_, fun x hx hT => ?_, fun x b hx hPx e => ?_, fun x y hs => ?_, fun x hPx => ?_, fun x b hPx e hs => ?_⟩
  · obtain ⟨-, -, a', e, hle⟩ := h4 _ _ hs
    have := hb a' e
    omega
  · by_cases e1 : x = q
    · subst e1
      simp [setO] at e
      subst e
      exact ⟨⟨bq, hbq, hbq2⟩, ha⟩
    · simp [setO, e1] at e
      exact h1 x b hx e
  · have e1 : x ≠ q := fun e => by rw [e, hTq] at hT; cases hT
    simp [setO, e1]
    exact h2 x hx hT
  · by_cases e1 : x = q
    · subst e1
      simp [setO] at e
      exact Or.inr ⟨e.symm, rfl⟩
    · simp [setO, e1] at e
      exact Or.inl (h3 x b hx hPx e)
  · rcases hs with hs | ⟨e1, e2⟩
    · obtain ⟨g1, g2, a', e, hle⟩ := h4 x y hs
      refine ⟨g1, g2, ?_⟩
      by_cases e1 : y = q
      · subst e1
        exact ⟨a + c y, by simp [setO], by have := hb a' e; omega⟩
      · exact ⟨a', by simp [setO, e1]; exact e, hle⟩
    · subst e1 e2
      have := cB_le (f := P) (n := 64)
      exact ⟨hq, by omega, a + c y, by simp [setO], Nat.le_refl _⟩
  · obtain ⟨g1, g2, g3⟩ := h5 x hPx
    have e1 : x ≠ q := fun e => by rw [e, hPq] at hPx; cases hPx
    refine ⟨g1, by simp [setO, e1]; exact g2, fun b y e hy hR hwy => ?_⟩
    simp [setO, e1] at e
    by_cases e2 : y = q
    · subst e2
      refine ⟨a + c y, by simp [setO], ?_⟩
      rcases hR with hR | ⟨e3, -⟩
      · obtain ⟨b2, hb2, hle2⟩ := g3 b y e hy hR hwy
        have := hb b2 hb2
        omega
      · subst e3
        rw [hf] at e
        cases e
        exact Nat.le_refl _
    · rcases hR with hR | ⟨-, e3⟩
      · obtain ⟨b2, hb2, hle2⟩ := g3 b y e hy hR hwy
        exact ⟨b2, by simp [setO, e2]; exact hb2, hle2⟩
      · exact absurd e3 e2
  · have e1 : x ≠ q := fun e => by rw [e, hPq] at hPx; cases hPx
    simp [setO, e1] at e
    rcases hs with hs | ⟨-, e2⟩
    · exact h6 x b hPx e hs
    · exact e1 e2
/-- .. or not -/
theorem dkK_same {T wl : Nat → Bool} {R : Nat → Nat → Prop} {c : Nat → Nat} {D F : Nat → Option Nat} {P : Nat → Bool} {S : Nat → Nat → Prop} {a p q b : Nat} (h : dkK T wl c D F P S R) (hf : F p = some a) (hb : F q = some b) (hle : b ≤ a + c q) : dkK T wl c D F P S (fun x y => R x y ∨ (x = p ∧ y = q)) := by
  obtain ⟨h1, h2, h3, h4, h5, h6⟩ := h
  refine ⟨h1, h2, h3, h4, fun x hPx => ?_, h6⟩
  obtain ⟨g1, g2, g3⟩ := h5 x hPx
  refine ⟨g1, g2, fun b2 y e hy hR hwy => ?_⟩
  rcases hR with hR | ⟨e1, e2⟩
  · exact g3 b2 y e hy hR hwy
  · subst e1 e2
    rw [hf] at e
    cases e
    exact ⟨b, hb, hle⟩
theorem dkK_R {T wl : Nat → Bool} {R R' : Nat → Nat → Prop} {c : Nat → Nat} {D F : Nat → Option Nat} {P : Nat → Bool} {S : Nat → Nat → Prop} (h : dkK T wl c D F P S R) (hR : ∀ x y, x < 64 → y < 64 → wl y = false → R' x y → R x y) : dkK T wl c D F P S R' := by
  obtain ⟨h1, h2, h3, h4, h5, h6⟩ := h
  exact ⟨h1, h2, h3, h4, fun x hPx => ⟨(h5 x hPx).1, (h5 x hPx).2.1, fun b y e hy hr hw => (h5 x hPx).2.2 b y e hy (hR x y (h5 x hPx).1 hy hw hr) hw⟩, h6⟩
theorem dkK_0 {T wl : Nat → Bool} {ad : Nat → Nat → Prop} {c : Nat → Nat} {D : Nat → Option Nat} (hF : FPd T wl ad c D) : dkK T wl c D (fun p => if T p then some 0 else none) (fun _ => false) (fun a p => a = 0 ∧ p < 64 ∧ T p = true) ad := by
  refine ⟨fun p a hp e => ?_, fun p hp hT => by simp [hT], fun p a hp _ e => ?_, fun a p hs => ⟨hs.2.1, by omega, 0, by simp [hs.2.2], by omega⟩, fun p hP => (by cases hP), fun p a hP => (by cases hP)⟩
  · cases hT : T p with
    | false => simp [hT] at e
    | true =>
      simp [hT] at e
      subst e
      exact ⟨⟨0, (hF p hp).1 hT, Nat.le_refl _⟩, Nat.zero_le _⟩
  · cases hT : T p with
    | false => simp [hT] at e
    | true =>
      simp [hT] at e
      exact ⟨e.symm, hp, hT⟩
/-- a law that stands: how many values wait behind each code -/
def lawOk (cs : Nat → Int32) (len : Nat) : Prop := len ≤ 150 ∧ ∃ dp : Nat → Nat, dp 0 = 0 ∧ dp len = 1 ∧ ∀ i, i < len → codeOk (cs i) ∧ (cs i < nI 2000 → dp i < 32 ∧ dp (i + 1) = dp i + 1) ∧ (¬ cs i < nI 2000 → 2 ≤ dp i ∧ dp (i + 1) = dp i - 1)
theorem stepL_push {nm f : Nat → Int32} {c : Int32} {t : Nat} (h : c < nI 2000) (ht : t < 32) : stepL nm c (t, f) = (t + 1, upd f t (if c < nI 1000 then c else nm (c - nI 1000).toNatClampNeg)) := by
  unfold stepL
  rw [if_pos h, if_pos (show (t, f).1 < 32 from ht)]
theorem stepL_deed {nm f : Nat → Int32} {c : Int32} {t : Nat} (h : ¬ c < nI 2000) (ht : 2 ≤ t) : stepL nm c (t, f) = (t - 1, upd f (t - 2) (deed (c - nI 2000).toNatClampNeg (f (t - 2)) (f (t - 1)))) := by
  unfold stepL
  rw [if_neg h, if_neg (show ¬ (t, f).1 < 2 by show ¬ t < 2; omega)]
theorem evalL_succ {nm cs wt : Nat → Int32} {i : Nat} : evalL nm cs wt (i + 1) = stepL nm (cs i) (evalL nm cs wt i) := rfl
theorem evalL_same {nm nm' cs wt wt' : Nat → Int32} {len : Nat} (h : lawOk cs len) (hn : ∀ k, k < 8 → nm k = nm' k) : (evalL nm cs wt len).2 0 = (evalL nm' cs wt' len).2 0 := by
  obtain ⟨-, dp, h0, h1, hs⟩ := h
  have key : ∀ i, i ≤ len → ∃ f f', evalL nm cs wt i = (dp i, f) ∧ evalL nm' cs wt' i = (dp i, f') ∧ ∀ j, j < dp i → f j = f' j := by
    intro i
    induction i with
    | zero => intro _; exact ⟨wt, wt', by rw [h0]; rfl, by rw [h0]; rfl, fun j hj => by omega⟩
    | succ i ih =>
      intro hi
      obtain ⟨f, f', e1, e2, e3⟩ := ih (by omega)
      obtain ⟨c1, c2, c3⟩ := hs i (by omega)
      rw [evalL_succ, evalL_succ, e1, e2]
      by_cases hc : cs i < nI 2000
      · obtain ⟨d1, d2⟩ := c2 hc
        refine ⟨_, _, (stepL_push hc d1).trans (by rw [d2]), (stepL_push hc d1).trans (by rw [d2]), fun j hj => ?_⟩
        by_cases ej : j = dp i
        · subst ej
          rw [upd_at, upd_at]
          by_cases h3 : cs i < nI 1000
          · rw [if_pos h3, if_pos h3]
          · rw [if_neg h3, if_neg h3]
            rcases c1 with ⟨k, hk, e⟩ | ⟨k, hk, e⟩ | ⟨k, hk, e⟩
            · exact absurd (by rw [e]; exact nI_lt hk (by omega)) h3
            · rw [e, pk_sub (by omega), Nat.add_sub_cancel_left, nI_clamp (by omega)]; exact hn k hk
            · rw [e] at hc; exact absurd ((nI_ltI (by omega) (by omega)).mp hc) (by omega)
        · rw [upd_ne ej, upd_ne ej]; exact e3 j (by omega)
      · obtain ⟨d1, d2⟩ := c3 hc
        refine ⟨_, _, (stepL_deed hc d1).trans (by rw [d2]), (stepL_deed hc d1).trans (by rw [d2]), fun j hj => ?_⟩
        rw [e3 (dp i - 2) (by omega), e3 (dp i - 1) (by omega)]
        by_cases ej : j = dp i - 2
        · subst ej; rw [upd_at, upd_at]
        · rw [upd_ne ej, upd_ne ej]; exact e3 j (by omega)
  obtain ⟨f, f', e1, e2, e3⟩ := key len (Nat.le_refl _)
  rw [e1, e2]
  exact e3 0 (by omega)
theorem clampL_in {x : Int32} : ∃ k, 1 ≤ k ∧ k ≤ 999 ∧ clampL x = nI k := by
  unfold clampL
  by_cases h : x < nI 1
  · exact ⟨1, by omega, by omega, by rw [if_pos h]⟩
  · rw [if_neg h]
    by_cases h2 : x ≤ nI 999
    · rw [if_pos h2]
      obtain ⟨k, hk, e⟩ := nI_of2 (M := nI 999) (n := 999) (by rw [nI_toInt (by omega)]) (x := x) (fun h3 => h (Int32.lt_trans h3 (by decide))) h2
      refine ⟨k, ?_, hk, e⟩
      rcases Nat.eq_zero_or_pos k with e0 | e0
      · rw [e, e0] at h; exact absurd (by decide) h
      · exact e0
    · exact ⟨999, by omega, by omega, by rw [if_neg h2]⟩
