/-! ===== distances from a tree: the equations, that they have one solution, how a search comes to it ===== -/
/-- D solves the equations: T the tree, wl the walls, ad who lies beside whom, c what a place costs -/
def FPd (T wl : Nat → Bool) (ad : Nat → Nat → Prop) (c : Nat → Nat) (D : Nat → Option Nat) : Prop := ∀ p, p < 64 →
  (T p = true → D p = some 0) ∧ (T p = false → wl p = true → D p = none) ∧
  (T p = false → wl p = false → (∀ e a, e < 64 → ad e p → D e = some a → ∃ b, D p = some b ∧ b ≤ a + c p) ∧ ∀ b, D p = some b → ∃ e a, e < 64 ∧ ad e p ∧ D e = some a ∧ b = a + c p)
theorem FPd_le {T wl : Nat → Bool} {ad : Nat → Nat → Prop} {c : Nat → Nat} {D D' : Nat → Option Nat} (hc : ∀ p, p < 64 → 1 ≤ c p) (h : FPd T wl ad c D) (h' : FPd T wl ad c D') : ∀ v p, p < 64 → D p = some v → ∃ v', D' p = some v' ∧ v' ≤ v := by
  intro v
  induction v using Nat.strongRecOn with
  | ind v ih =>
    intro p hp e
    cases hT : T p with
    | true => exact ⟨0, (h' p hp).1 hT, Nat.zero_le _⟩
    | false =>
      cases hw : wl p with
      | true => rw [(h p hp).2.1 hT hw] at e; cases e
      | false =>
        obtain ⟨q, a, hq, had, ha, hv⟩ := ((h p hp).2.2 hT hw).2 v e
        have := hc p hp
        obtain ⟨a', ha', hle⟩ := ih a (by omega) q hq ha
        obtain ⟨b, hb, hble⟩ := ((h' p hp).2.2 hT hw).1 q a' hq had ha'
        exact ⟨b, hb, by omega⟩
theorem FPd_one {T wl : Nat → Bool} {ad : Nat → Nat → Prop} {c : Nat → Nat} {D D' : Nat → Option Nat} (hc : ∀ p, p < 64 → 1 ≤ c p) (h : FPd T wl ad c D) (h' : FPd T wl ad c D') {p : Nat} (hp : p < 64) : D p = D' p := by
  cases e : D p with
  | none =>
    cases e' : D' p with
    | none => rfl
    | some v =>
      obtain ⟨v', h1, -⟩ := FPd_le hc h' h v p hp e'
      rw [e] at h1; cases h1
  | some v =>
    obtain ⟨v', h1, h2⟩ := FPd_le hc h h' v p hp e
    obtain ⟨v2, h3, h4⟩ := FPd_le hc h' h v' p hp h1
    rw [e] at h3
    cases h3
    rw [h1]
    congr 1
    omega
/-- a search on its way: F what is known, P who has been gone through, S what waits (how far, where) -/
def dkI (T wl : Nat → Bool) (ad : Nat → Nat → Prop) (c : Nat → Nat) (D F : Nat → Option Nat) (P : Nat → Prop) (S : Nat → Nat → Prop) : Prop :=
  (∀ p a, p < 64 → F p = some a → ∃ b, D p = some b ∧ b ≤ a) ∧ (∀ p, p < 64 → T p = true → F p = some 0) ∧
  (∀ p a, p < 64 → ¬ P p → F p = some a → S a p) ∧
  (∀ a p, S a p → p < 64 ∧ ∃ a', F p = some a' ∧ a' ≤ a) ∧
  (∀ p, P p → p < 64 ∧ F p = D p ∧ ∀ a q, F p = some a → q < 64 → ad p q → wl q = false → ∃ b, F q = some b ∧ b ≤ a + c q)
/-- whoever is nearer than all that waits has been gone through -/
theorem dk_near {T wl : Nat → Bool} {ad : Nat → Nat → Prop} {c : Nat → Nat} {D F : Nat → Option Nat} {P : Nat → Prop} {S : Nat → Nat → Prop} (hc : ∀ p, p < 64 → 1 ≤ c p) (hF : FPd T wl ad c D) (h : dkI T wl ad c D F P S) (m : Option Nat) (hm : ∀ a p, S a p → ∃ k, m = some k ∧ k ≤ a) : ∀ v p, p < 64 → D p = some v → (∀ k, m = some k → v < k) → P p ∧ F p = some v := by
  intro v
  induction v using Nat.strongRecOn with
  | ind v ih =>
    intro p hp e hv
    have fin : F p = some v → P p ∧ F p = some v := fun hf => by
      refine ⟨Classical.byContradiction fun hn => ?_, hf⟩
      obtain ⟨k, hk, hle⟩ := hm v p (h.2.2.1 p v hp hn hf)
      have := hv k hk
      omega
    cases hT : T p with
    | true =>
      have h0 := h.2.1 p hp hT
      rw [(hF p hp).1 hT] at e
      cases e
      exact fin h0
    | false =>
      cases hw : wl p with
      | true => rw [(hF p hp).2.1 hT hw] at e; cases e
      | false =>
        obtain ⟨q, a, hq, had, ha, hva⟩ := ((hF p hp).2.2 hT hw).2 v e
        have := hc p hp
        obtain ⟨hPq, hFq⟩ := ih a (by omega) q hq ha (fun k hk => by have := hv k hk; omega)
        obtain ⟨b, hb, hble⟩ := (h.2.2.2.2 q hPq).2.2 a p hFq hp had hw
        obtain ⟨b', hb', hle'⟩ := h.1 p b hp hb
        rw [e] at hb'
        cases hb'
        exact fin (by rw [hb]; congr 1; omega)
/-- the nearest that waits, if it is as near as known: so far it is -/
theorem dk_pop {T wl : Nat → Bool} {ad : Nat → Nat → Prop} {c : Nat → Nat} {D F : Nat → Option Nat} {P : Nat → Prop} {S : Nat → Nat → Prop} (hc : ∀ p, p < 64 → 1 ≤ c p) (hF : FPd T wl ad c D) (h : dkI T wl ad c D F P S) {a p : Nat} (hS : S a p) (hmin : ∀ a' p', S a' p' → a ≤ a') (hf : F p = some a) : D p = some a := by
  have hp := (h.2.2.2.1 a p hS).1
  obtain ⟨b, hb, hle⟩ := h.1 p a hp hf
  rcases Nat.lt_or_ge b a with q | q
  · have := (dk_near hc hF h (some a) (fun a' p' hs => ⟨a, rfl, hmin a' p' hs⟩) b p hp hb (fun k hk => by cases hk; exact q)).2
    rw [hf] at this
    cases this
    omega
  · rw [hb]; congr 1; omega
