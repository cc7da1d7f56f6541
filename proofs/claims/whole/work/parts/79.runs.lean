/-! ===== work: what its tokens do ===== -/
section ZRunS
theorem okR_per {b : zWo} {R : Nat → Int32} {k f t : Nat} (hb : bdOk b) (hg : gnOk b) (h : okR b R) (hf : 1 ≤ k ∧ k ≤ 3 → f < bN b) (hf4 : k = 4 → f < 8 ∧ t < 8) (hf5 : k = 5 → f ≤ 99) : okR b (perM b R k f t) := by
  have hN6 := hb.2.2.2.2.1
  unfold perM
  by_cases k0 : k = 0
  · rw [if_pos k0]; split
    · exact okR_rnd hb hg h
    · exact h
  rw [if_neg k0]
  by_cases k1 : k = 1
  · rw [if_pos k1]
    have := hf (by omega)
    split
    · next z => exact okR_layA hb h (by omega) this z
    · exact h
  rw [if_neg k1]
  by_cases k2 : k = 2
  · rw [if_pos k2]
    have := hf (by omega)
    exact okR_rip hb h (by omega)
  rw [if_neg k2]
  by_cases k3 : k = 3
  · rw [if_pos k3]
    have := hf (by omega)
    exact okR_crit hb h (by omega)
  rw [if_neg k3]
  by_cases k4 : k = 4
  · rw [if_pos k4]
    have := hf4 k4
    split
    · exact okR_wall hb h (by omega)
    · exact h
  rw [if_neg k4]
  by_cases k5 : k = 5
  · rw [if_pos k5]; exact okR_eas hb h ⟨f, hf5 k5, rfl⟩
  · rw [if_neg k5]; exact h
/-- begun, done, refused, the row -/
abbrev xs : Type := Nat × Nat × Nat × (Nat → Int32)
noncomputable def prm (b : zWo) (t : tok) (s : xs) : xs := if perB b s.2.2.2 t.1 t.2.1 t.2.2 then (s.1, s.2.1 + 1, s.2.2.1, perM b s.2.2.2 t.1 t.2.1 t.2.2) else (s.1, s.2.1, s.2.2.1 + 1, perM b s.2.2.2 t.1 t.2.1 t.2.2)
/-- 0 the tokens from i to j, else n times -/
noncomputable def exW (b : zWo) (ts : List tok) : Nat → Nat → Nat → Nat → Nat → xs → Option xs
  | 0, _, _, _, _, _ => none
  | f + 1, m, n, i, j, s =>
    if m = 0 then
      (if j ≤ i ∨ 200 ≤ s.1 then some s
      else if (tk ts i).1 = 6 then (exW b ts f 1 (tk ts i).2.1 (i + 1) (tk ts i).2.2 (s.1 + 1, s.2)).bind fun s2 => exW b ts f 0 0 ((tk ts i).2.2 + 1) j s2
      else exW b ts f 0 0 (i + 1) j (prm b (tk ts i) (s.1 + 1, s.2)))
    else (if n = 0 ∨ 200 ≤ s.1 then some s else (exW b ts f 0 0 i j s).bind fun s2 => exW b ts f 1 (n - 1) i j s2)
def tkOk (N C R : Nat) (t : tok) : Prop := t.1 ≤ 5 ∧ (1 ≤ t.1 ∧ t.1 ≤ 3 → t.2.1 < N) ∧ (t.1 = 4 → t.2.1 < C ∧ t.2.2 < R) ∧ (t.1 = 5 → 1 ≤ t.2.1 ∧ t.2.1 ≤ 99) ∧ (t.1 = 3 → t.2.2 ≤ 9)
/-- tokens from i to j, o deep, stand -/
def sqOk (N C R : Nat) (ts : List tok) : Nat → Nat → Nat → Nat → Prop
  | 0, _, i, j => i = j
  | n + 1, o, i, j => i = j ∨ (i < j ∧ (((tk ts i).1 = 6 ∧ o < 6 ∧ (tk ts i).2.1 ≤ 40 ∧ i < (tk ts i).2.2 ∧ (tk ts i).2.2 < j ∧ (tk ts (tk ts i).2.2).1 = 7 ∧ (tk ts (tk ts i).2.2).2.1 = i ∧ sqOk N C R ts n (o + 1) (i + 1) (tk ts i).2.2 ∧ sqOk N C R ts n o ((tk ts i).2.2 + 1) j) ∨ (tkOk N C R (tk ts i) ∧ sqOk N C R ts n o (i + 1) j)))
variable {N C R : Nat} {ts : List tok}
theorem sqOk_up : ∀ {n o i j : Nat}, sqOk N C R ts n o i j → sqOk N C R ts (n + 1) o i j
  | 0, o, i, j, h => Or.inl h
  | n + 1, o, i, j, h => by
    rcases h with h | ⟨h1, h2⟩
    · exact Or.inl h
    · refine Or.inr ⟨h1, ?_⟩
      rcases h2 with ⟨a1, a2, a3, a4, a5, a6, a7, a8, a9⟩ | ⟨a1, a2⟩
      · exact Or.inl ⟨a1, a2, a3, a4, a5, a6, a7, sqOk_up a8, sqOk_up a9⟩
      · exact Or.inr ⟨a1, sqOk_up a2⟩
theorem sqOk_le {n m o i j : Nat} (h : sqOk N C R ts n o i j) (hm : n ≤ m) : sqOk N C R ts m o i j := by
  induction m with
  | zero => rw [show n = 0 by omega] at h; exact h
  | succ m ih =>
    by_cases e : n = m + 1
    · rw [← e]; exact h
    · exact sqOk_up (ih (by omega))
theorem sqOk_app : ∀ {n k o i m j : Nat}, sqOk N C R ts n o i m → sqOk N C R ts k o m j → m ≤ j → sqOk N C R ts (n + k) o i j
  | 0, k, o, i, m, j, h, h2, _ => by have h' : i = m := h; rw [Nat.zero_add, h']; exact h2
  | n + 1, k, o, i, m, j, h, h2, hj => by
    rcases h with h | ⟨h1, h3⟩
    · rw [h]; exact sqOk_le h2 (by omega)
    · rw [show n + 1 + k = n + k + 1 by omega]
      refine Or.inr ⟨by omega, ?_⟩
      rcases h3 with ⟨a1, a2, a3, a4, a5, a6, a7, a8, a9⟩ | ⟨a1, a2⟩
      · exact Or.inl ⟨a1, a2, a3, a4, by omega, a6, a7, sqOk_le a8 (by omega), sqOk_app a9 h2 hj⟩
      · exact Or.inr ⟨a1, sqOk_app a2 h2 hj⟩
/-- tokens moved -/
theorem tk_mid {ts c us : List tok} {i : Nat} (h : i < c.length) : tk (ts ++ c ++ us) (ts.length + i) = tk c i := by
  rw [tk_l (by rw [List.length_append]; omega), tk_r (by omega), Nat.add_sub_cancel_left]
theorem pPrim_val {bs : Nat → Nat} {L k A A' : Nat} {q : Nat × Nat} (h : pPrim bs L N C R k A = .inr (q, A')) (hA : A ≤ L) (hk : k ≤ 5) : tkOk N C R (k, q.1, q.2) := by
  unfold pPrim at h
  unfold tkOk
  simp only
  split at h
  · next z => cases h; refine ⟨by omega, fun y => by omega, fun y => by omega, fun y => by omega, fun y => by omega⟩
  · split at h
    · next z => obtain ⟨x, a, e, h⟩ := pbind_ok h; cases h; have := pNum_ok e hA; refine ⟨hk, fun y => this.2.2.2, fun y => by omega, fun y => by omega, fun y => by omega⟩
    · split at h
      · next z => obtain ⟨x, a, e, h⟩ := pbind_ok h; have p1 := pNum_ok e hA; obtain ⟨y, a2, e2, h⟩ := pbind_ok h; cases h; have p2 := pNum_ok e2 p1.2.1; refine ⟨hk, fun y => p1.2.2.2, fun y => by omega, fun y => by omega, fun y => by simp only; omega⟩
      · split at h
        · next z => obtain ⟨x, a, e, h⟩ := pbind_ok h; have p1 := pNum_ok e hA; obtain ⟨y, a2, e2, h⟩ := pbind_ok h; cases h; have p2 := pNum_ok e2 p1.2.1; refine ⟨hk, fun y => by omega, fun y => ⟨p1.2.2.2, p2.2.2.2⟩, fun y => by omega, fun y => by omega⟩
        · obtain ⟨x, a, e, h⟩ := pbind_ok h; cases h; have := pNum_ok e hA; refine ⟨hk, fun y => by omega, fun y => by omega, fun y => by simp only; omega, fun y => by omega⟩
theorem pW_sq {bs : Nat → Nat} {L f m o b A A' : Nat} {c : List tok} (h : pW bs L N C R f m o b A = .inr (c, A')) (hA : A ≤ L) (pre us : List tok) (hp : pre.length = b) : sqOk N C R (pre ++ c ++ us) c.length o b (b + c.length) ∧ ∀ i, i < c.length → (tk c i).1 = 7 → (tk c i).2.1 < b + c.length := by
  induction f generalizing m o b A A' c pre us with
  | zero => cases h
  | succ f ih =>
    have hg : A ≤ sk bs L A := sp_g
    have hl : sk bs L A ≤ L := sp_l hA
    have hw : sk bs L A ≤ woE bs L A := sp_g
    have hwl : woE bs L A ≤ L := sp_l hl
    rw [pW] at h
    by_cases m0 : m = 0
    · rw [if_pos m0] at h
      split at h
      · cases h; exact ⟨rfl, fun i hi => absurd hi (Nat.not_lt_zero _)⟩
      · obtain ⟨c1, a1, e1, h⟩ := pbind_ok h
        obtain ⟨c2, a2, e2, h⟩ := pbind_ok h
        cases h
        have i1 := ih e1 hA pre (c2 ++ us) hp
        have i2 := ih e2 (pW_ok e1 hA).2.1 (pre ++ c1) us (by rw [List.length_append, hp])
        rw [show pre ++ c1 ++ (c2 ++ us) = pre ++ (c1 ++ c2) ++ us by simp only [List.append_assoc]] at i1
        rw [show pre ++ c1 ++ c2 ++ us = pre ++ (c1 ++ c2) ++ us by simp only [List.append_assoc]] at i2
        rw [List.length_append]
        refine ⟨by have := sqOk_app i1.1 i2.1 (by omega); rw [Nat.add_assoc] at this; exact this, fun i hi h7 => ?_⟩
        by_cases z : i < c1.length
        · rw [tk_l z] at h7 ⊢
          have := i1.2 i z h7
          omega
        · rw [tk_r (by omega)] at h7 ⊢
          have := i2.2 (i - c1.length) (by omega) h7
          omega
    rw [if_neg m0] at h
    split at h
    · cases h
    · next k7 =>
      have hk := kdW_len k7
      split at h
      · split at h
        · cases h
        · next o6 =>
          obtain ⟨n, a1, e1, h⟩ := pbind_ok h
          obtain ⟨u, a2, e2, h⟩ := pbind_ok h
          obtain ⟨c3, a3, e3, h⟩ := pbind_ok h
          obtain ⟨u4, a4, e4, h⟩ := pbind_ok h
          obtain ⟨u5, a5, e5, h⟩ := pbind_ok h
          cases h
          have p1 := pNum_ok e1 hwl
          have p2 := pSign_ok e2
          have i3 := ih e3 p2.2 (pre ++ [(6, n, b + 1 + c3.length)]) ([(7, b, 0)] ++ us) (by rw [List.length_append, hp]; rfl)
          rw [show pre ++ [(6, n, b + 1 + c3.length)] ++ c3 ++ ([(7, b, 0)] ++ us) = pre ++ ([(6, n, b + 1 + c3.length)] ++ c3 ++ [(7, b, 0)]) ++ us by simp only [List.append_assoc]] at i3
          have hlen : ([(6, n, b + 1 + c3.length)] ++ c3 ++ [(7, b, 0)]).length = c3.length + 2 := by simp only [List.length_append, List.length_singleton]; omega
          have t0 : tk (pre ++ ([(6, n, b + 1 + c3.length)] ++ c3 ++ [(7, b, 0)]) ++ us) b = (6, n, b + 1 + c3.length) := by
            have := tk_mid (ts := pre) (us := us) (c := [(6, n, b + 1 + c3.length)] ++ c3 ++ [(7, b, 0)]) (i := 0) (by omega)
            exact (congrArg (tk _) (show b = pre.length + 0 by omega)).trans (this.trans rfl)
          have t1 : tk ([(6, n, b + 1 + c3.length)] ++ c3 ++ [(7, b, 0)]) (c3.length + 1) = (7, b, 0) := by
            rw [tk_r (by rw [List.length_append]; simp only [List.length_singleton]; omega), List.length_append, List.length_singleton, show c3.length + 1 - (1 + c3.length) = 0 by omega]
            rfl
          have t2 : tk (pre ++ ([(6, n, b + 1 + c3.length)] ++ c3 ++ [(7, b, 0)]) ++ us) (b + 1 + c3.length) = (7, b, 0) := by
            have := tk_mid (ts := pre) (us := us) (c := [(6, n, b + 1 + c3.length)] ++ c3 ++ [(7, b, 0)]) (i := c3.length + 1) (by omega)
            exact (congrArg (tk _) (show b + 1 + c3.length = pre.length + (c3.length + 1) by omega)).trans (this.trans t1)
          rw [hlen]
          refine ⟨Or.inr ⟨by omega, Or.inl ?_⟩, fun i hi h7 => ?_⟩
          · rw [t0]
            refine ⟨rfl, by omega, by simp only; omega, by simp only; omega, by simp only; omega, by simp only; rw [t2], by simp only; rw [t2], sqOk_le i3.1 (by omega), ?_⟩
            exact Or.inl (by simp only; omega)
          · by_cases z : i = c3.length + 1
            · rw [z, t1]; simp only; omega
            · by_cases y : i = 0
              · rw [y] at h7
                exact absurd h7 (by show ¬ (6 : Nat) = 7; decide)
              · rw [tk_l (by rw [List.length_append, List.length_singleton]; omega), tk_r (by rw [List.length_singleton]; omega)] at h7 ⊢
                rw [List.length_singleton] at h7 ⊢
                have := i3.2 (i - 1) (by omega) h7
                omega
      · next k6 =>
        obtain ⟨q, a1, e1, h⟩ := pbind_ok h
        obtain ⟨u, a2, e2, h⟩ := pbind_ok h
        cases h
        have hv := pPrim_val e1 hwl (by omega)
        have t0 := tk_mid (ts := pre) (us := us) (c := [(kdW bs (sk bs L A) (woE bs L A), q.1, q.2)]) (i := 0) (by rw [List.length_singleton]; omega)
        rw [Nat.add_zero, hp] at t0
        rw [List.length_singleton]
        refine ⟨Or.inr ⟨by omega, Or.inr ⟨?_, rfl⟩⟩, fun i hi h7 => ?_⟩
        · rw [t0]; exact hv
        · rw [show i = 0 by omega] at h7
          have h8 : kdW bs (sk bs L A) (woE bs L A) = 7 := h7
          omega
theorem exW_fuel {b : zWo} : ∀ {f n o i j k : Nat} {s : xs}, sqOk N C R ts n o i j → i ≤ j → (42 * (j - i) + 1 ≤ f → exW b ts f 0 0 i j s ≠ none) ∧ (42 * (j - i) + 2 + k ≤ f → exW b ts f 1 k i j s ≠ none)
  | 0, n, o, i, j, k, s, h, hij => ⟨fun h => by omega, fun h => by omega⟩
  | f + 1, n, o, i, j, k, s, h, hij => by
    constructor
    · intro hf
      rw [exW, if_pos rfl]
      split
      · exact fun z => by cases z
      · next z =>
        cases n with
        | zero => have h' : i = j := h; omega
        | succ n =>
          rcases h with h | ⟨h1, h2⟩
          · omega
          · rcases h2 with ⟨a1, a2, a3, a4, a5, a6, a7, a8, a9⟩ | ⟨a1, a2⟩
            · rw [if_pos a1]
              have i1 := (exW_fuel (b := b) (f := f) (k := (tk ts i).2.1) (s := (s.1 + 1, s.2)) a8 (by omega)).2 (by omega)
              cases e : exW b ts f 1 (tk ts i).2.1 (i + 1) (tk ts i).2.2 (s.1 + 1, s.2) with
              | none => exact absurd e i1
              | some s2 => exact (exW_fuel (b := b) (f := f) (k := 0) (s := s2) a9 (by omega)).1 (by omega)
            · rw [if_neg (by have := a1.1; omega)]
              exact (exW_fuel (b := b) (f := f) (k := 0) a2 (by omega)).1 (by omega)
    · intro hf
      rw [exW, if_neg (by decide)]
      split
      · exact fun z => by cases z
      · next z =>
        have i1 := (exW_fuel (b := b) (f := f) (k := 0) (s := s) h hij).1 (by omega)
        cases e : exW b ts f 0 0 i j s with
        | none => exact absurd e i1
        | some s2 => exact (exW_fuel (b := b) (f := f) (k := k - 1) (s := s2) h hij).2 (by omega)
end ZRunS
