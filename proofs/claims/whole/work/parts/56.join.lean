/-! ===== the fewest places: equations with beginnings a, steps of one; how a search comes to their solution ===== -/
section ZJoinM
def FPj (a : Nat → Option Nat) (wl : Nat → Bool) (ad : Nat → Nat → Prop) (D : Nat → Option Nat) : Prop := ∀ p, p < 64 →
  (∀ v, a p = some v → ∃ b, D p = some b ∧ b ≤ v) ∧ (wl p = false → ∀ e x, e < 64 → ad e p → D e = some x → ∃ b, D p = some b ∧ b ≤ x + 1) ∧
  (∀ b, D p = some b → a p = some b ∨ (wl p = false ∧ ∃ e x, e < 64 ∧ ad e p ∧ D e = some x ∧ b = x + 1))
variable {a : Nat → Option Nat} {wl : Nat → Bool} {ad R R' : Nat → Nat → Prop} {D D' F : Nat → Option Nat} {P : Nat → Bool} {S : Nat → Nat → Prop} {M : Nat}
theorem FPj_le (h : FPj a wl ad D) (h' : FPj a wl ad D') : ∀ v p, p < 64 → D p = some v → ∃ v', D' p = some v' ∧ v' ≤ v := by
  intro v
  induction v using Nat.strongRecOn with
  | ind v ih =>
    intro p hp e
    rcases (h p hp).2.2 v e with h1 | ⟨hw, q, x, hq, had, hx, hv⟩
    · exact (h' p hp).1 v h1
    · obtain ⟨x', hx', hle⟩ := ih x (by omega) q hq hx
      obtain ⟨b, hb, hble⟩ := (h' p hp).2.1 hw q x' hq had hx'
      exact ⟨b, hb, by omega⟩
theorem FPj_one (h : FPj a wl ad D) (h' : FPj a wl ad D') {p : Nat} (hp : p < 64) : D p = D' p := by
  cases e : D p with
  | none =>
    cases e' : D' p with
    | none => rfl
    | some v =>
      obtain ⟨v', h1, -⟩ := FPj_le h' h v p hp e'
      rw [e] at h1; cases h1
  | some v =>
    obtain ⟨v', h1, h2⟩ := FPj_le h h' v p hp e
    obtain ⟨v2, h3, h4⟩ := FPj_le h' h v' p hp h1
    rw [e] at h3
    cases h3
    rw [h1]
    congr 1
    omega
def rcj (a : Nat → Option Nat) (wl : Nat → Bool) (ad : Nat → Nat → Prop) : Nat → Nat → Nat → Prop
  | 0, v, p => a p = some v
  | k + 1, v, p => rcj a wl ad k v p ∨ (wl p = false ∧ ∃ e x, e < 64 ∧ ad e p ∧ rcj a wl ad k x e ∧ v = x + 1)
theorem rcj_in {p : Nat} : ∀ {k v : Nat}, rcj a wl ad k v p → a p = some v ∨ (wl p = false ∧ ∃ k e x, e < 64 ∧ ad e p ∧ rcj a wl ad k x e ∧ v = x + 1)
  | 0, v, h => Or.inl h
  | k + 1, v, h => by
    rcases h with h | ⟨h1, e, x, h2⟩
    · exact rcj_in h
    · exact Or.inr ⟨h1, k, e, x, h2⟩
theorem FPj_ex (a : Nat → Option Nat) (wl : Nat → Bool) (ad : Nat → Nat → Prop) : ∃ D : Nat → Option Nat, FPj a wl ad D := by
  have h : ∀ p, ∃ o : Option Nat, (o = none ∧ ∀ k v, ¬ rcj a wl ad k v p) ∨ ∃ v, o = some v ∧ (∃ k, rcj a wl ad k v p) ∧ ∀ k v', rcj a wl ad k v' p → v ≤ v' := by
    intro p
    by_cases e : ∃ v, ∃ k, rcj a wl ad k v p
    · obtain ⟨v, hv⟩ := e
      obtain ⟨m, hm, hle⟩ := least_ex (P := fun v => ∃ k, rcj a wl ad k v p) hv
      exact ⟨some m, Or.inr ⟨m, rfl, hm, fun k v' hk => hle v' ⟨k, hk⟩⟩⟩
    · exact ⟨none, Or.inl ⟨rfl, fun k v hk => e ⟨v, k, hk⟩⟩⟩
  obtain ⟨D, H⟩ : ∃ D : Nat → Option Nat, ∀ p, (D p = none ∧ ∀ k v, ¬ rcj a wl ad k v p) ∨ ∃ v, D p = some v ∧ (∃ k, rcj a wl ad k v p) ∧ ∀ k v', rcj a wl ad k v' p → v ≤ v' := ⟨fun p => Classical.choose (h p), fun p => Classical.choose_spec (h p)⟩
  have up : ∀ p k v, rcj a wl ad k v p → ∃ b, D p = some b ∧ b ≤ v := fun p k v hr => by
    rcases H p with ⟨-, h2⟩ | ⟨b, h1, -, h3⟩
    · exact absurd hr (h2 k v)
    · exact ⟨b, h1, h3 k v hr⟩
  have dn : ∀ p b, D p = some b → ∃ k, rcj a wl ad k b p := fun p b hb => by
    rcases H p with ⟨h1, -⟩ | ⟨v, h1, h2, -⟩
    · rw [h1] at hb; cases hb
    · rw [h1] at hb; cases hb; exact h2
  refine ⟨D, fun p hp => ⟨fun v hv => up p 0 v hv, fun hw e x he had hx => ?_, fun b hb => ?_⟩⟩
  · obtain ⟨k, hk⟩ := dn e x hx
    exact up p (k + 1) (x + 1) (Or.inr ⟨hw, e, x, he, had, hk, rfl⟩)
  · obtain ⟨k, hk⟩ := dn p b hb
    rcases rcj_in hk with h1 | ⟨hw, k', e, x, he, had, hr, hv⟩
    · exact Or.inl h1
    · obtain ⟨x', hx', hle⟩ := up e k' x hr
      obtain ⟨k2, hk2⟩ := dn e x' hx'
      obtain ⟨b', hb', hle'⟩ := up p (k2 + 1) (x' + 1) (Or.inr ⟨hw, e, x', he, had, hk2, rfl⟩)
      rw [hb] at hb'
      cases hb'
      exact Or.inr ⟨hw, e, x', he, had, hx', by omega⟩
noncomputable def clJ (a : Nat → Option Nat) (wl : Nat → Bool) (ad : Nat → Nat → Prop) : Nat → Option Nat := Classical.choose (FPj_ex a wl ad)
theorem clJ_FP : FPj a wl ad (clJ a wl ad) := Classical.choose_spec (FPj_ex a wl ad)
/-- a search on its way -/
def djK (a : Nat → Option Nat) (wl : Nat → Bool) (D F : Nat → Option Nat) (P : Nat → Bool) (S R : Nat → Nat → Prop) (M : Nat) : Prop :=
  (∀ p x, p < 64 → F p = some x → (∃ b, D p = some b ∧ b ≤ x) ∧ x ≤ M + cB P 64) ∧ (∀ p v, p < 64 → a p = some v → ∃ x, F p = some x ∧ x ≤ v) ∧
  (∀ p x, p < 64 → P p = false → F p = some x → S x p) ∧
  (∀ x p, S x p → p < 64 ∧ x ≤ M + 64 ∧ ∃ x', F p = some x' ∧ x' ≤ x) ∧
  (∀ p, P p = true → p < 64 ∧ F p = D p ∧ ∀ x q, F p = some x → q < 64 → R p q → wl q = false → ∃ b, F q = some b ∧ b ≤ x + 1) ∧
  (∀ p x, P p = true → F p = some x → ¬ S x p)
theorem dj_near (hF : FPj a wl ad D) (h : djK a wl D F P S ad M) (m : Option Nat) (hm : ∀ x p, S x p → ∃ k, m = some k ∧ k ≤ x) : ∀ v p, p < 64 → D p = some v → (∀ k, m = some k → v < k) → P p = true ∧ F p = some v := by
  intro v
  induction v using Nat.strongRecOn with
  | ind v ih =>
    intro p hp e hv
    have fin : F p = some v → P p = true ∧ F p = some v := fun hf => by
      refine ⟨?_, hf⟩
      cases hn : P p with
      | true => rfl
      | false =>
        obtain ⟨k, hk, hle⟩ := hm v p (h.2.2.1 p v hp hn hf)
        have := hv k hk
        omega
    have low : ∀ x, F p = some x → x ≤ v → F p = some v := fun x hx hle => by
      obtain ⟨b', hb', hle'⟩ := (h.1 p x hp hx).1
      rw [e] at hb'
      cases hb'
      rw [hx]; congr 1; omega
    rcases (hF p hp).2.2 v e with h1 | ⟨hw, q, x, hq, had, hx, hva⟩
    · obtain ⟨x, hx, hle⟩ := h.2.1 p v hp h1
      exact fin (low x hx hle)
    · obtain ⟨hPq, hFq⟩ := ih x (by omega) q hq hx (fun k hk => by have := hv k hk; omega)
      obtain ⟨b, hb, hble⟩ := (h.2.2.2.2.1 q hPq).2.2 x p hFq hp had hw
      exact fin (low b hb (by omega))
theorem dj_pop (hF : FPj a wl ad D) (h : djK a wl D F P S ad M) {x p : Nat} (hS : S x p) (hmin : ∀ x' p', S x' p' → x ≤ x') (hf : F p = some x) : D p = some x := by
  have hp := (h.2.2.2.1 x p hS).1
  obtain ⟨b, hb, hle⟩ := (h.1 p x hp hf).1
  rcases Nat.lt_or_ge b x with q | q
  · have := (dj_near hF h (some x) (fun x' p' hs => ⟨x, rfl, hmin x' p' hs⟩) b p hp hb (fun k hk => by cases hk; exact q)).2
    rw [hf] at this
    cases this
    omega
  · rw [hb]; congr 1; omega
theorem dj_end (hF : FPj a wl ad D) (h : djK a wl D F P S ad M) (hS : ∀ x p, ¬ S x p) {p : Nat} (hp : p < 64) : F p = D p := by
  cases e : D p with
  | some v => exact (dj_near hF h none (fun x p hs => absurd hs (hS x p)) v p hp e (fun k hk => by cases hk)).2
  | none =>
    cases e2 : F p with
    | none => rfl
    | some x =>
      obtain ⟨b, hb, -⟩ := (h.1 p x hp e2).1
      rw [e] at hb; cases hb
theorem djK_stale {x p x1 : Nat} (h : djK a wl D F P S ad M) (hf : F p = some x1) (hlt : x1 < x) : djK a wl D F P (fun u y => S u y ∧ ¬ (u = x ∧ y = p)) ad M := by
  obtain ⟨h1, h2, h3, h4, h5, h6⟩ := h
  refine ⟨h1, h2, fun q b hq hP e => ⟨h3 q b hq hP e, fun z => ?_⟩, fun u y hs => h4 u y hs.1, h5, fun q b hP e hs => h6 q b hP e hs.1⟩
  obtain ⟨z1, z2⟩ := z
  subst z1 z2
  rw [hf] at e
  cases e
  omega
theorem djK_take {x p : Nat} (h : djK a wl D F P S ad M) (hS : S x p) (hf : F p = some x) (hD : D p = some x) : P p = false ∧ djK a wl D F (setB P p) (fun u y => S u y ∧ ¬ (u = x ∧ y = p)) (fun u y => ad u y ∧ u ≠ p) M ∧ x ≤ M + cB P 64 := by
  obtain ⟨h1, h2, h3, h4, h5, h6⟩ := h
  have hp := (h4 x p hS).1
  have hP : P p = false := by
    cases e : P p with
    | false => rfl
    | true => exact absurd hS (h6 p x e hf)
  refine ⟨hP, ⟨fun q b hq e => ⟨(h1 q b hq e).1, ?_⟩, h2, fun q b hq hPq e => ⟨h3 q b hq ?_ e, fun z => ?_⟩, fun u y hs => h4 u y hs.1, fun q hPq => ?_, fun q b hPq e hs => ?_⟩, (h1 p x hp hf).2⟩
  · have := (h1 q b hq e).2
    rw [cB_set hp hP]
    omega
  · by_cases e1 : q = p
    · subst e1; simp [setB] at hPq
    · simpa [setB, e1] using hPq
  · rw [z.2] at hPq; simp [setB] at hPq
  · by_cases e1 : q = p
    · subst e1
      exact ⟨hp, by rw [hf, hD], fun b y e hy hR => absurd rfl hR.2⟩
    · obtain ⟨g1, g2, g3⟩ := h5 q (by simpa [setB, e1] using hPq)
      exact ⟨g1, g2, fun b y e hy hR hw => g3 b y e hy hR.1 hw⟩
  · by_cases e1 : q = p
    · subst e1
      rw [hf] at e
      cases e
      exact hs.2 ⟨rfl, rfl⟩
    · exact h6 q b (by simpa [setB, e1] using hPq) e hs.1
theorem djK_better {x p q : Nat} (hF : FPj a wl ad D) (h : djK a wl D F P S R M) (hP : P p = true) (hf : F p = some x) (ha : x + 1 ≤ M + cB P 64) (hq : q < 64) (had : ad p q) (hw : wl q = false) (hb : ∀ b, F q = some b → x + 1 < b) : ¬ S (x + 1) q ∧ djK a wl D (setO F q (x + 1)) P (fun u y => S u y ∨ (u = x + 1 ∧ y = q)) (fun u y => R u y ∨ (u = p ∧ y = q)) M := by
  obtain ⟨h1, h2, h3, h4, h5, h6⟩ := h
  have hp := (h5 p hP).1
  have hDp : D p = some x := by rw [← (h5 p hP).2.1, hf]
  obtain ⟨bq, hbq, hbq2⟩ := (hF q hq).2.1 hw p x hp had hDp
  have hPq : P q = false := by
    cases e : P q with
    | false => rfl
    | true =>
      have := hb bq (by rw [(h5 q e).2.1, hbq])
      omega
  have hpq : p ≠ q := fun e => by rw [e, hPq] at hP; cases hP
  refine ⟨fun hs => ?_, fun u b hx e => ?_, fun u v hu hv => ?_, fun u b hx hPx e => ?_, fun u y hs => ?_, fun u hPx => ?_, fun u b hPx e hs => ?_⟩
  · obtain ⟨-, -, a', e, hle⟩ := h4 _ _ hs
    have := hb a' e
    omega
  · by_cases e1 : u = q
    · subst e1
      simp [setO] at e
      subst e
      exact ⟨⟨bq, hbq, hbq2⟩, ha⟩
    · simp [setO, e1] at e
      exact h1 u b hx e
  · obtain ⟨x2, hx2, hle⟩ := h2 u v hu hv
    by_cases e1 : u = q
    · subst e1
      exact ⟨x + 1, by simp [setO], by have := hb x2 hx2; omega⟩
    · exact ⟨x2, by simp [setO, e1]; exact hx2, hle⟩
  · by_cases e1 : u = q
    · subst e1
      simp [setO] at e
      exact Or.inr ⟨e.symm, rfl⟩
    · simp [setO, e1] at e
      exact Or.inl (h3 u b hx hPx e)
  · rcases hs with hs | ⟨e1, e2⟩
    · obtain ⟨g1, g2, a', e, hle⟩ := h4 u y hs
      refine ⟨g1, g2, ?_⟩
      by_cases e1 : y = q
      · subst e1
        exact ⟨x + 1, by simp [setO], by have := hb a' e; omega⟩
      · exact ⟨a', by simp [setO, e1]; exact e, hle⟩
    · subst e1 e2
      have := cB_le (f := P) (n := 64)
      exact ⟨hq, by omega, x + 1, by simp [setO], Nat.le_refl _⟩
  · obtain ⟨g1, g2, g3⟩ := h5 u hPx
    have e1 : u ≠ q := fun e => by rw [e, hPq] at hPx; cases hPx
    refine ⟨g1, by simp [setO, e1]; exact g2, fun b y e hy hR hwy => ?_⟩
    simp [setO, e1] at e
    by_cases e2 : y = q
    · subst e2
      refine ⟨x + 1, by simp [setO], ?_⟩
      rcases hR with hR | ⟨e3, -⟩
      · obtain ⟨b2, hb2, hle2⟩ := g3 b y e hy hR hwy
        have := hb b2 hb2
        omega
      · subst e3
        rw [hf] at e
        cases e
        exact Nat.le_refl _
    · rcases hR with hR | ⟨-, e3⟩
      · obtain ⟨b2, hb2, hle2⟩ := g3 b y e hy hR hwy
        exact ⟨b2, by simp [setO, e2]; exact hb2, hle2⟩
      · exact absurd e3 e2
  · have e1 : u ≠ q := fun e => by rw [e, hPq] at hPx; cases hPx
    simp [setO, e1] at e
    rcases hs with hs | ⟨-, e2⟩
    · exact h6 u b hPx e hs
    · exact e1 e2
theorem djK_same {x p q b : Nat} (h : djK a wl D F P S R M) (hf : F p = some x) (hb : F q = some b) (hle : b ≤ x + 1) : djK a wl D F P S (fun u y => R u y ∨ (u = p ∧ y = q)) M := by
  obtain ⟨h1, h2, h3, h4, h5, h6⟩ := h
  refine ⟨h1, h2, h3, h4, fun u hPx => ?_, h6⟩
  obtain ⟨g1, g2, g3⟩ := h5 u hPx
  refine ⟨g1, g2, fun b2 y e hy hR hwy => ?_⟩
  rcases hR with hR | ⟨e1, e2⟩
  · exact g3 b2 y e hy hR hwy
  · subst e1 e2
    rw [hf] at e
    cases e
    exact ⟨b, hb, hle⟩
theorem djK_R (h : djK a wl D F P S R M) (hR : ∀ x y, x < 64 → y < 64 → wl y = false → R' x y → R x y) : djK a wl D F P S R' M := by
  obtain ⟨h1, h2, h3, h4, h5, h6⟩ := h
  exact ⟨h1, h2, h3, h4, fun x hPx => ⟨(h5 x hPx).1, (h5 x hPx).2.1, fun b y e hy hr hw => (h5 x hPx).2.2 b y e hy (hR x y (h5 x hPx).1 hy hw hr) hw⟩, h6⟩
theorem djK_0 (hF : FPj a wl ad D) (hM : ∀ p v, p < 64 → a p = some v → v ≤ M) : djK a wl D a (fun _ => false) (fun x p => p < 64 ∧ a p = some x) ad M :=
  ⟨fun p x hp e => ⟨(hF p hp).1 x e, by have := hM p x hp e; omega⟩, fun p v hp e => ⟨v, e, Nat.le_refl _⟩, fun p x hp _ e => ⟨hp, e⟩, fun x p hs => ⟨hs.1, by have := hM p x hs.1 hs.2; omega, x, hs.2, Nat.le_refl _⟩, fun p hP => (by cases hP), fun p x hP => (by cases hP)⟩
/-- how far at most -/
theorem FPj_max (hF : FPj a wl ad D) (hM : ∀ p v, p < 64 → a p = some v → v ≤ M) : ∀ p v, p < 64 → D p = some v → v ≤ M + 64 := by
  intro p v hp hv
  -- as many places are nearer as the way is long
  have key : ∀ v p, p < 64 → D p = some v → v ≤ M + cB (fun q => match D q with | none => false | some u => decide (u < v)) 64 := by
    intro v
    induction v using Nat.strongRecOn with
    | ind v ih =>
      intro p hp e
      rcases (hF p hp).2.2 v e with h1 | ⟨hw, q, x, hq, had, hx, hva⟩
      · have := hM p v hp h1
        omega
      · have h2 := ih x (by omega) q hq hx
        have h3 := cB_lt (f := fun q => match D q with | none => false | some u => decide (u < x)) (f' := fun q => match D q with | none => false | some u => decide (u < v)) (x := q) (n := 64) hq (by simp [hx]) (by simp [hx]; omega) (fun k hk h4 => by
          cases e5 : D k with
          | none => simp [e5] at h4
          | some u => simp [e5] at h4 ⊢; omega)
        omega
  have h1 := key v p hp hv
  have h2 := cB_le (f := fun q => match D q with | none => false | some u => decide (u < v)) (n := 64)
  omega
end ZJoinM
