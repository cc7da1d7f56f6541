/-! ===== the fewest places: with the first pin or without ===== -/
section ZRefAV
variable {b : zWo} {R : rwT} {n : Nat}
def basR (b : zWo) (n : Nat) : Nat → Nat → Nat → Option Nat := lp (fun i tab => fun s p => if s = 2 ^ i ∧ p = bpn b n i then some 0 else tab s p) (fun _ _ => none)
theorem basR_st {k : Nat} : basR b n (k + 1) = fun s p => if s = 2 ^ k ∧ p = bpn b n k then some 0 else basR b n k s p := rfl
theorem basR_0 {s p v : Nat} : ∀ {k : Nat}, basR b n k s p = some v → v = 0 ∧ ∃ i, i < k ∧ s = 2 ^ i ∧ p = bpn b n i
  | 0, h => by cases h
  | k + 1, h => by
    rw [basR_st] at h
    simp only at h
    split at h
    · next z => injection h with h; exact ⟨h.symm, k, by omega, z⟩
    · obtain ⟨a1, i, a2, a3⟩ := basR_0 h; exact ⟨a1, i, by omega, a3⟩
theorem basR_2 {s p : Nat} : ∀ {k : Nat}, basR b n k (2 * s) p = basN b n k s p
  | 0 => rfl
  | k + 1 => by
    have ih := basR_2 (s := s) (p := p) (k := k)
    rw [basR_st]
    simp only
    rcases Nat.eq_zero_or_pos k with e | e
    · subst e
      rw [if_neg (by rw [Nat.pow_zero]; omega)]
      rfl
    · rw [bas_step e]
      simp only
      have e2 : (2 * s = 2 ^ k) ↔ s = 2 ^ (k - 1) := by
        obtain ⟨j, rfl⟩ : ∃ j, k = j + 1 := ⟨k - 1, by omega⟩
        rw [Nat.pow_succ, Nat.add_sub_cancel]; omega
      by_cases z : s = 2 ^ (k - 1) ∧ p = bpn b n k
      · rw [if_pos z, if_pos ⟨e2.mpr z.1, z.2⟩]
      · rw [if_neg z, if_neg (fun y => z ⟨e2.mp y.1, y.2⟩)]; exact ih
noncomputable def tabR (b : zWo) (R : rwT) (n : Nat) : Nat → Nat → Nat → Option Nat := lp (fun set tab => if set = 0 then tab else tset tab set (clJ (jnN tab set set) (wlR R) (adM b))) (basR b n (bpc b n))
theorem tabR_st {set : Nat} (h : 0 < set) : tabR b R n (set + 1) = tset (tabR b R n set) set (clJ (jnN (tabR b R n set) set set) (wlR R) (adM b)) := by
  show (if set = 0 then tabR b R n set else tset (tabR b R n set) set (clJ (jnN (tabR b R n set) set set) (wlR R) (adM b))) = _
  rw [if_neg (by omega)]
/-- what a set's row is in the end -/
noncomputable def FR (b : zWo) (R : rwT) (n : Nat) (s : Nat) : Nat → Option Nat := tabR b R n (s + 1) s
theorem tabR_lo {s : Nat} : ∀ {k : Nat}, s < k → tabR b R n k s = FR b R n s
  | 0, h => by omega
  | k + 1, h => by
    by_cases e : s = k
    · rw [e]; rfl
    · rw [tabR_st (by omega), ← tabR_lo (k := k) (by omega)]
      unfold tset; rw [if_neg e]
theorem tabR_hi {s : Nat} : ∀ {k : Nat}, k ≤ s → tabR b R n k s = basR b n (bpc b n) s
  | 0, _ => rfl
  | k + 1, h => by
    rcases Nat.eq_zero_or_pos k with e | e
    · subst e; rfl
    · rw [tabR_st e]
      unfold tset; rw [if_neg (by omega)]; exact tabR_hi (by omega)
theorem FR_eq {s : Nat} (h : 0 < s) : FR b R n s = clJ (jnN (tabR b R n s) s s) (wlR R) (adM b) := by
  unfold FR
  rw [tabR_st h]
  unfold tset; rw [if_pos rfl]
theorem FR_FP {s : Nat} (h : 0 < s) : FPj (jnN (tabR b R n s) s s) (wlR R) (adM b) (FR b R n s) := by rw [FR_eq h]; exact clJ_FP
noncomputable def FM (b : zWo) (R : rwT) (n : Nat) (s : Nat) : Nat → Option Nat := tabM b R n (s + 1) s
theorem tabM_lo {s : Nat} : ∀ {k : Nat}, s < k → tabM b R n k s = FM b R n s
  | 0, h => by omega
  | k + 1, h => by
    by_cases e : s = k
    · rw [e]; rfl
    · rw [tab_step (by omega), ← tabM_lo (k := k) (by omega)]
      unfold tset; rw [if_neg e]
theorem tabM_hi {s : Nat} : ∀ {k : Nat}, k ≤ s → tabM b R n k s = basN b n (bpc b n) s
  | 0, _ => rfl
  | k + 1, h => by
    rcases Nat.eq_zero_or_pos k with e | e
    · subst e; rfl
    · rw [tab_step e]
      unfold tset; rw [if_neg (by omega)]; exact tabM_hi (by omega)
theorem FM_FP {s : Nat} (h : 0 < s) : FPj (jnN (tabM b R n s) s s) (wlR R) (adM b) (FM b R n s) := by
  unfold FM
  rw [tab_step h]
  unfold tset; rw [if_pos rfl]; exact clJ_FP
theorem FPj_same {a a' D : Nat → Option Nat} {wl : Nat → Bool} {ad : Nat → Nat → Prop} (h : FPj a wl ad D) (e : ∀ p, p < 64 → a' p = a p) : FPj a' wl ad D := fun p hp => by
  rw [e p hp]; exact h p hp
theorem sub_e2 : ∀ s, s < 8 → ∀ k, k < 8 → subB (2 * k) (2 * s) = subB k s ∧ subB (2 * k + 1) (2 * s) = false := by decide +kernel
theorem jn_2 {tR tM : Nat → Nat → Option Nat} {s p : Nat} (hs : s < 8) (h0 : tR (2 * s) p = tM s p) (h : ∀ k, 0 < k → k < s → tR (2 * k) p = tM k p) : ∀ {k : Nat}, k ≤ s → jnN tR (2 * s) (2 * k) p = jnN tM s k p
  | 0, _ => h0
  | k + 1, hk => by
    have ih := jn_2 hs h0 h (k := k) (by omega)
    have e1 := sub_e2 s hs k (by omega)
    rw [show 2 * (k + 1) = (2 * k + 1) + 1 by omega, jn_step (by omega), e1.2, if_neg (by decide)]
    rcases Nat.eq_zero_or_pos k with e | e
    · subst e
      show jnN tR (2 * s) (0 + 1) p = jnN tM s (0 + 1) p
      exact h0
    · rw [jn_step (by omega), jn_step e, e1.1, h k e (by omega), ih, show 2 * s - 2 * k = 2 * (s - k) by omega, h (s - k) (by omega) (by omega)]
theorem FR_FM : ∀ {s : Nat}, s < 8 → 0 < s → ∀ p, p < 64 → FR b R n (2 * s) p = FM b R n s p := by
  intro s
  induction s using Nat.strongRecOn with
  | ind s ih =>
    intro hs h0 p hp
    refine FPj_one (FR_FP (by omega)) (FPj_same (FM_FP h0) (fun q hq => ?_)) hp
    refine jn_2 hs ?_ (fun k k0 ks => ?_) (Nat.le_refl _)
    · rw [tabR_hi (Nat.le_refl _), tabM_hi (Nat.le_refl _)]; exact basR_2
    · rw [tabR_lo (by omega), tabM_lo ks]; exact ih k ks (by omega) k0 q hq
/-- what a join comes from -/
theorem jn_ex {tab : Nat → Nat → Option Nat} {set p : Nat} : ∀ {k v : Nat}, jnN tab set k p = some v → tab set p = some v ∨ ∃ part x y, 0 < part ∧ part < k ∧ subB part set = true ∧ tab part p = some x ∧ tab (set - part) p = some y ∧ v = x + y
  | 0, v, h => Or.inl h
  | k + 1, v, h => by
    rcases Nat.eq_zero_or_pos k with e | e
    · subst e; exact Or.inl h
    · rw [jn_step e] at h
      have old : jnN tab set k p = some v → tab set p = some v ∨ ∃ part x y, 0 < part ∧ part < k + 1 ∧ subB part set = true ∧ tab part p = some x ∧ tab (set - part) p = some y ∧ v = x + y := fun h => by
        rcases jn_ex h with z | ⟨part, x, y, z1, z2, z3⟩
        · exact Or.inl z
        · exact Or.inr ⟨part, x, y, z1, by omega, z3⟩
      split at h
      · next hsb =>
        cases e1 : tab k p with
        | none => rw [e1] at h; exact old h
        | some x =>
          cases e2 : tab (set - k) p with
          | none => rw [e1, e2] at h; exact old h
          | some y =>
            rw [e1, e2] at h
            cases e3 : jnN tab set k p with
            | none => rw [e3] at h; injection h with h; exact Or.inr ⟨k, x, y, e, by omega, hsb, e1, e2, h.symm⟩
            | some c =>
              rw [e3] at h
              simp only [oad, olt] at h
              split at h
              · injection h with h; exact Or.inr ⟨k, x, y, e, by omega, hsb, e1, e2, h.symm⟩
              · exact old (e3.trans h)
      · exact old h
theorem jn_dn {tab : Nat → Nat → Option Nat} {set p k c : Nat} (h : jnN tab set k p = some c) : ∃ u, jnN tab set (k + 1) p = some u ∧ u ≤ c := by
  rcases Nat.eq_zero_or_pos k with e | e
  · subst e; exact ⟨c, h, Nat.le_refl _⟩
  · rw [jn_step e, h]
    split
    · cases oad (tab k p) (tab (set - k) p) with
      | none => exact ⟨c, rfl, Nat.le_refl _⟩
      | some x =>
        simp only [olt]
        split
        · exact ⟨x, rfl, by omega⟩
        · exact ⟨c, rfl, Nat.le_refl _⟩
    · exact ⟨c, rfl, Nat.le_refl _⟩
theorem jn_up {tab : Nat → Nat → Option Nat} {set p part x y : Nat} (h0 : 0 < part) (hs : subB part set = true) (h1 : tab part p = some x) (h2 : tab (set - part) p = some y) : ∀ {k : Nat}, part < k → ∃ u, jnN tab set k p = some u ∧ u ≤ x + y
  | 0, h => by omega
  | k + 1, h => by
    by_cases e : part = k
    · subst e
      rw [jn_step h0, if_pos hs, h1, h2]
      cases jnN tab set part p with
      | none => exact ⟨x + y, rfl, Nat.le_refl _⟩
      | some c =>
        simp only [oad, olt]
        split
        · exact ⟨x + y, rfl, Nat.le_refl _⟩
        · exact ⟨c, rfl, by omega⟩
    · obtain ⟨u, hu, hle⟩ := jn_up h0 hs h1 h2 (k := k) (by omega)
      obtain ⟨u2, hu2, hle2⟩ := jn_dn hu
      exact ⟨u2, hu2, by omega⟩
theorem sub_odd1 : ∀ S, S < 16 → ∀ k, k < 16 → (!(decide (S % 2 = 1)) || !(subB k S) || (decide (k ≤ S) && subB (S - k) S && (!(decide (k % 2 = 1)) || subB (k - 1) (S - 1)) && (!(decide (k % 2 = 0)) || decide ((S - k) % 2 = 1)))) = true := by decide +kernel
theorem sub_odd (S : Nat) (hS : S < 16) (ho : S % 2 = 1) (k : Nat) (hk : k < 16) (hs : subB k S = true) : k ≤ S ∧ subB (S - k) S = true ∧ (k % 2 = 1 → subB (k - 1) (S - 1) = true) ∧ (k % 2 = 0 → (S - k) % 2 = 1) := by
  have h := sub_odd1 S hS k hk
  rw [decide_eq_true ho, hs] at h
  simp only [Bool.not_true, Bool.false_or, Bool.and_eq_true, decide_eq_true_iff, Bool.or_eq_true, Bool.not_eq_true', decide_eq_false_iff_not] at h
  exact ⟨h.1.1.1, h.1.1.2, fun z => h.1.2.resolve_left (fun y => y z), fun z => h.2.resolve_left (fun y => y z)⟩
theorem FR_odd : ∀ {S : Nat}, S < 16 → S % 2 = 1 → 1 < S → ∀ v p, p < 64 → FR b R n S p = some v → ∃ u, FR b R n (S - 1) p = some u ∧ u ≤ v := by
  intro S
  induction S using Nat.strongRecOn with
  | ind S ih =>
    intro hS hodd h1 v
    induction v using Nat.strongRecOn with
    | ind v ihv =>
      intro p hp hv
      have f2 := FR_FP (b := b) (R := R) (n := n) (s := S - 1) (by omega)
      rcases (FR_FP (by omega) p hp).2.2 v hv with ha | ⟨hw, e, x, he, had, hx, hvx⟩
      · rcases jn_ex ha with hz | ⟨part, x, y, p0, pS, psb, hx, hy, hvv⟩
        · rw [tabR_hi (Nat.le_refl _)] at hz
          obtain ⟨-, i, -, hi, -⟩ := basR_0 hz
          cases i with
          | zero => rw [Nat.pow_zero] at hi; omega
          | succ i => rw [Nat.pow_succ] at hi; omega
        · have hso := sub_odd S hS hodd part (by omega) psb
          rw [tabR_lo pS] at hx
          rw [tabR_lo (by omega)] at hy
          -- the part with the first pin, and the other
          have main : ∀ Q x y, 0 < Q → Q < S → Q % 2 = 1 → subB Q S = true → FR b R n Q p = some x → FR b R n (S - Q) p = some y → v = x + y → ∃ u, FR b R n (S - 1) p = some u ∧ u ≤ v := by
            intro Q x y q0 qS qo qs hx hy hvv
            by_cases q1 : Q = 1
            · rw [q1] at hy; exact ⟨y, hy, by omega⟩
            · obtain ⟨x', hx', hle⟩ := ih Q qS (by omega) qo (by omega) x p hp hx
              have hsb := (sub_odd S hS hodd Q (by omega) qs).2.2.1 qo
              obtain ⟨u, hu, hule⟩ := jn_up (tab := tabR b R n (S - 1)) (set := S - 1) (p := p) (part := Q - 1) (x := x') (y := y) (by omega) hsb (by rw [tabR_lo (by omega)]; exact hx') (by rw [show S - 1 - (Q - 1) = S - Q by omega, tabR_lo (by omega)]; exact hy) (k := S - 1) (by omega)
              obtain ⟨u2, hu2, hle2⟩ := (f2 p hp).1 u hu
              exact ⟨u2, hu2, by omega⟩
          by_cases po : part % 2 = 1
          · exact main part x y p0 pS po psb hx hy hvv
          · exact main (S - part) y x (by omega) (by omega) (hso.2.2.2 (by omega)) hso.2.1 hy (by rw [show S - (S - part) = part by omega]; exact hx) (by omega)
      · obtain ⟨u, hu, hle⟩ := ihv x (by omega) e he hx
        obtain ⟨u2, hu2, hle2⟩ := (f2 p hp).2.1 hw e u he had hu
        exact ⟨u2, hu2, by omega⟩
theorem sub_one : ∀ S, S < 16 → S % 2 = 1 → subB 1 S = true := by decide +kernel
theorem FR_root {S : Nat} (hS : S < 16) (hodd : S % 2 = 1) (h1 : 1 < S) (hpc : 0 < bpc b n) (hp : bpn b n 0 < 64) : FR b R n S (bpn b n 0) = FR b R n (S - 1) (bpn b n 0) := by
  have z1 : ∃ u, FR b R n 1 (bpn b n 0) = some u ∧ u ≤ 0 := by
    refine (FR_FP (by omega) _ hp).1 0 ?_
    have e : jnN (tabR b R n 1) 1 1 (bpn b n 0) = tabR b R n 1 1 (bpn b n 0) := rfl
    rw [e, tabR_hi (Nat.le_refl _)]
    have : ∀ k, 0 < k → basR b n k 1 (bpn b n 0) = some 0 := by
      intro k hk
      induction k with
      | zero => omega
      | succ k ih =>
        rw [basR_st]
        simp only
        split
        · rfl
        · next z =>
          rcases Nat.eq_zero_or_pos k with e | e
          · subst e; exact absurd ⟨rfl, rfl⟩ z
          · exact ih e
    exact this _ hpc
  obtain ⟨u0, hu0, hle0⟩ := z1
  cases e : FR b R n S (bpn b n 0) with
  | some v =>
    obtain ⟨u, hu, hle⟩ := FR_odd hS hodd h1 v _ hp e
    obtain ⟨w, hw, hwle⟩ := jn_up (tab := tabR b R n S) (set := S) (p := bpn b n 0) (part := 1) (x := u0) (y := u) (by omega) (sub_one S hS hodd) (by rw [tabR_lo h1]; exact hu0) (by rw [tabR_lo (by omega)]; exact hu) (k := S) h1
    obtain ⟨w2, hw2, hle2⟩ := (FR_FP (by omega) _ hp).1 w hw
    rw [e] at hw2; cases hw2
    rw [hu]; congr 1; omega
  | none =>
    cases e2 : FR b R n (S - 1) (bpn b n 0) with
    | none => rfl
    | some u =>
      obtain ⟨w, hw, hwle⟩ := jn_up (tab := tabR b R n S) (set := S) (p := bpn b n 0) (part := 1) (x := u0) (y := u) (by omega) (sub_one S hS hodd) (by rw [tabR_lo h1]; exact hu0) (by rw [tabR_lo (by omega)]; exact e2) (k := S) h1
      obtain ⟨w2, hw2, hle2⟩ := (FR_FP (by omega) _ hp).1 w hw
      rw [e] at hw2; cases hw2
/-- bounds, and that nothing lies outside -/
def pop4 (s : Nat) : Nat := s % 2 + s / 2 % 2 + s / 4 % 2 + s / 8 % 2
theorem pop4_sub : ∀ set, set < 16 → ∀ k, k < 16 → subB k set = true → k ≤ set ∧ pop4 k + pop4 (set - k) = pop4 set := by decide +kernel
theorem pop4_pos : ∀ s, s < 16 → 0 < s → 0 < pop4 s ∧ pop4 s ≤ 4 := by decide
theorem FR_bd (hb : bdOk b) (hn : n < 6) : ∀ {s : Nat}, s < 16 → 0 < s → (∀ p v, p < 64 → jnN (tabR b R n s) s s p = some v → v + 128 ≤ 128 * pop4 s ∧ insM b p = true) ∧ ∀ p v, p < 64 → FR b R n s p = some v → v + 64 ≤ 128 * pop4 s ∧ insM b p = true := by
  intro s
  induction s using Nat.strongRecOn with
  | ind s ih =>
    intro hs h0
    have hpp := pop4_pos s hs h0
    have ha : ∀ p v, p < 64 → jnN (tabR b R n s) s s p = some v → v + 128 ≤ 128 * pop4 s ∧ insM b p = true := by
      intro p v hp hv
      rcases jn_ex hv with hz | ⟨part, x, y, p0, pS, psb, hx, hy, hvv⟩
      · rw [tabR_hi (Nat.le_refl _)] at hz
        obtain ⟨hv0, i, hi, -, hpi⟩ := basR_0 hz
        rw [hpi]
        exact ⟨by omega, (hb.2.2.2.2.2.2.1 n i hn hi).2⟩
      · have hps := pop4_sub s hs part (by omega) psb
        rw [tabR_lo pS] at hx
        rw [tabR_lo (by omega)] at hy
        have b1 := (ih part pS (by omega) p0).2 p x hp hx
        have b2 := (ih (s - part) (by omega) (by omega) (by omega)).2 p y hp hy
        exact ⟨by omega, b1.2⟩
    refine ⟨ha, fun p v hp hv => ⟨?_, ?_⟩⟩
    · have := FPj_max (M := 128 * pop4 s - 128) (FR_FP h0) (fun q u hq hu => by have := (ha q u hq hu).1; omega) p v hp hv
      omega
    · clear hpp
      revert p
      induction v using Nat.strongRecOn with
      | ind v ihv =>
        intro p hp hv
        rcases (FR_FP h0 p hp).2.2 v hv with hz | ⟨hw, e, x, he, had, hx, hvx⟩
        · exact (ha p v hp hz).2
        · obtain ⟨w, hw4, hnb⟩ := had
          exact nbr_ins hb (ihv x (by omega) e he hx) hnb
end ZRefAV
