/-! ===== rows that stand: trees that lead to their roots ===== -/
section ZOk
def depOk (b : zWo) (R : Nat → Int32) (n : Nat) (dep : Nat → Nat) (o : Option Nat) : Prop := ∀ p, p < 64 → tin R n p = true → insM b p = true ∧ ((R (n * 64 + p) = 4 ∧ p = bpn b n 0) ∨ (p ≠ bpn b n 0 ∧ ∃ v q, v < 4 ∧ R (n * 64 + p) = nI v ∧ nbr b p v = some q ∧ (tin R n q = true ∨ o = some q) ∧ dep q < dep p))
def okT (b : zWo) (R : Nat → Int32) (n : Nat) : Prop := ∃ dep, depOk b R n dep none
def okR (b : zWo) (R : Nat → Int32) : Prop := (∀ n, n < 6 → okT b R n) ∧ (∀ n p, n < 6 → p < 64 → (bN b ≤ n ∨ bpc b n = 0) → tin R n p = false) ∧ (∀ p, p < 64 → R (448 + p) = 0 ∨ R (448 + p) = 1) ∧ (∀ p, p < 64 → ∃ k, k ≤ 9999 ∧ R (384 + p) = nI k)
theorem okR_wok {b : zWo} {R : Nat → Int32} (h : okR b R) : wok R := by
  intro k hk
  obtain ⟨dep, hd⟩ := h.1 (k / 64) (by omega)
  have e : k / 64 * 64 + k % 64 = k := by omega
  by_cases ht : R k = -1
  · exact Or.inl ht
  · have := hd (k % 64) (by omega) (by unfold tin; rw [e]; exact decide_eq_true ht)
    rw [e] at this
    rcases this.2 with ⟨h4, -⟩ | ⟨-, v, q, hv, h4, -⟩
    · exact Or.inr ⟨4, by omega, h4⟩
    · exact Or.inr ⟨v, by omega, h4⟩
theorem cB_mono {f f' : Nat → Bool} : ∀ {n : Nat}, (∀ k, k < n → f k = true → f' k = true) → cB f n ≤ cB f' n
  | 0, _ => Nat.le_refl _
  | n + 1, h => by
    have ih := cB_mono (n := n) (fun k hk => h k (by omega))
    have := h n (by omega)
    simp only [cB]
    cases e : f n
    · simp; omega
    · rw [this e]; simp; omega
theorem cB_lt {f f' : Nat → Bool} {x : Nat} : ∀ {n : Nat}, x < n → f x = false → f' x = true → (∀ k, k < n → f k = true → f' k = true) → cB f n < cB f' n := fun {n} hx hf hf' h => by
  have h1 := cB_set (f := f) hx hf
  have h2 := cB_mono (f := setB f x) (f' := f') (n := n) (fun k hk hk2 => by
    simp only [setB] at hk2
    split at hk2
    · next e => rw [e]; exact hf'
    · exact h k hk hk2)
  omega
/-- depths below 64 -/
theorem okT_bd {b : zWo} {R : Nat → Int32} {n : Nat} (hb : bdOk b) (h : okT b R n) : ∃ dep, depOk b R n dep none ∧ ∀ p, p < 64 → tin R n p = true → dep p < 64 := by
  obtain ⟨dep, hd⟩ := h
  refine ⟨fun p => cB (fun x => tin R n x && decide (dep x < dep p)) 64, fun p hp ht => ?_, fun p hp ht => ?_⟩
  · obtain ⟨h1, h2⟩ := hd p hp ht
    refine ⟨h1, ?_⟩
    rcases h2 with h2 | ⟨h3, v, q, hv, h4, h5, h6, h7⟩
    · exact Or.inl h2
    · refine Or.inr ⟨h3, v, q, hv, h4, h5, h6, ?_⟩
      have hq := nbr_lt hb hp h5
      have htq : tin R n q = true := by rcases h6 with h6 | h6; exact h6; cases h6
      refine cB_lt (x := q) hq (by simp) (by simp [htq, h7]) (fun k hk hk2 => ?_)
      simp only [Bool.and_eq_true, decide_eq_true_eq] at hk2 ⊢
      exact ⟨hk2.1, by omega⟩
  · have h1 := cB_lt (f := fun x => tin R n x && decide (dep x < dep p)) (f' := fun _ => true) (x := p) (n := 64) hp (by simp) rfl (fun k _ _ => rfl)
    have h2 := cB_le (f := fun _ => true) (n := 64)
    exact Nat.lt_of_lt_of_le h1 h2
theorem max_ex (f : Nat → Nat) : ∀ n : Nat, ∃ M, ∀ x, x < n → f x ≤ M
  | 0 => ⟨0, fun x h => by omega⟩
  | n + 1 => by
    obtain ⟨M, h⟩ := max_ex f n
    refine ⟨M + f n, fun x hx => ?_⟩
    by_cases e : x = n
    · subst e; omega
    · have := h x (by omega); omega
theorem D_in {b : zWo} (hb : bdOk b) {T wl : Nat → Bool} {c : Nat → Nat} {D : Nat → Option Nat} (hD : FPd T wl (adM b) c D) (hc : ∀ p, 1 ≤ c p) (hT : ∀ p, p < 64 → T p = true → insM b p = true) : ∀ v p, p < 64 → D p = some v → insM b p = true := by
  intro v
  induction v using Nat.strongRecOn with
  | _ v ih =>
    intro p hp hv
    cases ht : T p with
    | true => exact hT p hp ht
    | false =>
      cases hw : wl p with
      | true => have := (hD p hp).2.1 ht hw; rw [hv] at this; cases this
      | false =>
        obtain ⟨e, a, he, ⟨x, hx, hxe⟩, hDe, hva⟩ := ((hD p hp).2.2 ht hw).2 v hv
        have := hc p
        exact nbr_ins hb (ih a (by omega) e he hDe) hxe
theorem wb_ex {b : zWo} (hb : bdOk b) {T wl : Nat → Bool} {c : Nat → Nat} {D : Nat → Option Nat} (hD : FPd T wl (adM b) c D) (hc : ∀ p, 1 ≤ c p) (hT : ∀ p, p < 64 → T p = true → insM b p = true) {p v : Nat} (hp : p < 64) (ht : T p = false) (hv : D p = some v) : ∃ d e x, wbM b D c p = some d ∧ d < 4 ∧ nbr b p d = some e ∧ D e = some x ∧ v = x + c p := by
  have hw : wl p = false := by
    cases hw : wl p with
    | false => rfl
    | true => have := (hD p hp).2.1 ht hw; rw [hv] at this; cases this
  obtain ⟨e, a, he, ⟨x, hx, hxe⟩, hDe, hva⟩ := ((hD p hp).2.2 ht hw).2 v hv
  have hie := D_in hb hD hc hT a e he hDe
  have hs := nbr_sym hb hie hx hxe
  have hwb : wbB b D c p ((x + 2) % 4) = true := by
    unfold wbB
    rw [hs]
    simp only [hDe]
    exact decide_eq_true (by rw [hv, hva])
  have hsome : ∃ d, wbM b D c p = some d ∧ d < 4 ∧ wbB b D c p d = true := by
    unfold wbM
    by_cases e0 : wbB b D c p 0 = true
    · exact ⟨0, by rw [if_pos e0], by omega, e0⟩
    · by_cases e1 : wbB b D c p 1 = true
      · exact ⟨1, by rw [if_neg e0, if_pos e1], by omega, e1⟩
      · by_cases e2 : wbB b D c p 2 = true
        · exact ⟨2, by rw [if_neg e0, if_neg e1, if_pos e2], by omega, e2⟩
        · by_cases e3 : wbB b D c p 3 = true
          · exact ⟨3, by rw [if_neg e0, if_neg e1, if_neg e2, if_pos e3], by omega, e3⟩
          · exfalso
            have h4 : (x + 2) % 4 = 0 ∨ (x + 2) % 4 = 1 ∨ (x + 2) % 4 = 2 ∨ (x + 2) % 4 = 3 := by omega
            rcases h4 with z | z | z | z <;> rw [z] at hwb <;> contradiction
  obtain ⟨d, hd, hd4, hdb⟩ := hsome
  unfold wbB at hdb
  cases hnb : nbr b p d with
  | none => rw [hnb] at hdb; cases hdb
  | some e2 =>
    rw [hnb] at hdb
    simp only at hdb
    cases hD2 : D e2 with
    | none => rw [hD2] at hdb; cases hdb
    | some y =>
      rw [hD2] at hdb
      have h9 := of_decide_eq_true hdb
      rw [hv] at h9
      injection h9 with h9
      exact ⟨d, e2, y, hd, hd4, hnb, hD2, h9⟩
theorem all_in {R : Nat → Int32} {n p : Nat} (h : 64 ≤ cB (tin R n) 64) (hp : p < 64) : tin R n p = true := by
  cases e : tin R n p with
  | true => rfl
  | false =>
    have h1 := cB_lt (f := tin R n) (f' := fun _ => true) (x := p) (n := 64) hp e rfl (fun k _ _ => rfl)
    have h2 := cB_le (f := fun _ => true) (n := 64)
    omega
theorem lay_ok {b : zWo} (hb : bdOk b) {wl : Nat → Bool} {c : Nat → Nat} {D : Nat → Option Nat} {n : Nat} {R0 : Nat → Int32} {dep : Nat → Nat} (hn : n < 6) (hD : FPd (tin R0 n) wl (adM b) c D) (hc : ∀ p, 1 ≤ c p) (hT : ∀ p, p < 64 → tin R0 n p = true → insM b p = true) (hroot : tin R0 n (bpn b n 0) = true) (hdep : ∀ p e v x, p < 64 → e < 64 → tin R0 n p = false → D p = some v → D e = some x → x < v → dep e < dep p) : ∀ {k : Nat} {o : Option Nat} {R : Nat → Int32}, depOk b R n dep o → (∀ q, q < 64 → tin R0 n q = true → tin R n q = true) → (∀ q, o = some q → q < 64 ∧ insM b q = true ∧ ∃ v, D q = some v) → 64 ≤ cB (tin R n) 64 + k → depOk b (layM b D c n k o R) n dep none ∧ (∀ q, q < 64 → tin R n q = true → tin (layM b D c n k o R) n q = true) ∧ (∀ q, o = some q → tin (layM b D c n k o R) n q = true) ∧ ∀ j, (j < n * 64 ∨ n * 64 + 64 ≤ j) → layM b D c n k o R j = R j := by
  have close : ∀ {o : Option Nat} {R : Nat → Int32}, depOk b R n dep o → (∀ q, o = some q → tin R n q = true) → depOk b R n dep none := by
    intro o R h ho p hp ht
    obtain ⟨h1, h2⟩ := h p hp ht
    refine ⟨h1, ?_⟩
    rcases h2 with h2 | ⟨h3, v, q, hv, h4, h5, h6, h7⟩
    · exact Or.inl h2
    · exact Or.inr ⟨h3, v, q, hv, h4, h5, Or.inl (by rcases h6 with h6 | h6; exact h6; exact ho q h6), h7⟩
  intro k
  induction k with
  | zero =>
    intro o R h1 h2 h3 h4
    have ho : ∀ q, o = some q → tin R n q = true := fun q hq => all_in (by omega) (h3 q hq).1
    exact ⟨close h1 ho, fun q _ h => h, ho, fun j _ => rfl⟩
  | succ k ih =>
    intro o R h1 h2 h3 h4
    cases o with
    | none => exact ⟨h1, fun q _ h => h, fun q hq => (by cases hq), fun j _ => rfl⟩
    | some p =>
      obtain ⟨hp, hpi, v, hv⟩ := h3 p rfl
      simp only [layM]
      cases ht : tin R n p with
      | true =>
        have ho : ∀ q, some p = some q → tin R n q = true := fun q hq => by cases hq; exact ht
        exact ⟨close h1 ho, fun q _ h => h, ho, fun j _ => rfl⟩
      | false =>
        have ht0 : tin R0 n p = false := by
          cases e : tin R0 n p with
          | false => rfl
          | true => rw [h2 p hp e] at ht; cases ht
        obtain ⟨d, e, x, hwb, hd4, hnb, hDe, hvx⟩ := wb_ex hb hD hc hT hp ht0 hv
        have he := nbr_lt hb hp hnb
        have hcp := hc p
        simp only [Bool.false_eq_true, if_false, hwb, hnb]
        have htu : ∀ q, q < 64 → tin (upd R (n * 64 + p) (nI d)) n q = if q = p then true else tin R n q := fun q hq => by
          rw [tin_upd hn hp hn hq]
          by_cases z : q = p
          · rw [if_pos ⟨rfl, z⟩, if_pos z]; exact decide_eq_true (nI_ne1 (by omega))
          · rw [if_neg (fun y => z y.2), if_neg z]
        have hcnt : cB (tin (upd R (n * 64 + p) (nI d)) n) 64 = cB (tin R n) 64 + 1 := by
          rw [← cB_set hp ht]
          exact cB_congr (fun q hq => by rw [htu q hq]; rfl)
        have hup : ∀ q, q < 64 → tin R n q = true → tin (upd R (n * 64 + p) (nI d)) n q = true := fun q hq hq2 => by rw [htu q hq]; split; rfl; exact hq2
        obtain ⟨j1, j2, j3, j4⟩ := ih (o := some e) (R := upd R (n * 64 + p) (nI d)) (fun q hq hq2 => by
          rw [htu q hq] at hq2
          by_cases z : q = p
          · subst z
            refine ⟨hpi, Or.inr ⟨fun y => ?_, d, e, hd4, upd_at, hnb, Or.inr rfl, hdep q e v x hp he ht0 hv hDe (by omega)⟩⟩
            rw [y, hroot] at ht0
            cases ht0
          · rw [if_neg z] at hq2
            obtain ⟨i1, i2⟩ := h1 q hq hq2
            refine ⟨i1, ?_⟩
            rw [upd_ne (by omega)]
            rcases i2 with i2 | ⟨i3, v', q', i4, i5, i6, i7, i8⟩
            · exact Or.inl i2
            · refine Or.inr ⟨i3, v', q', i4, i5, i6, Or.inl ?_, i8⟩
              have hq' := nbr_lt hb hq i6
              rw [htu q' hq']
              by_cases y : q' = p
              · rw [if_pos y]
              · rw [if_neg y]
                rcases i7 with i7 | i7
                · exact i7
                · injection i7 with i7; exact absurd i7.symm y) (fun q hq hq2 => hup q hq (h2 q hq hq2)) (fun q hq => by cases hq; exact ⟨he, nbr_ins hb hpi hnb, x, hDe⟩) (by omega)
        refine ⟨j1, fun q hq hq2 => j2 q hq (hup q hq hq2), fun q hq => ?_, fun j hj => ?_⟩
        · cases hq
          exact j2 p hp (by rw [htu p hp, if_pos rfl])
        · rw [j4 j hj, upd_ne (by omega)]
theorem lay_okT {b : zWo} (hb : bdOk b) {n q : Nat} {R : Nat → Int32} (hn : n < 6) (hq : q < 64) (h : okT b R n) (hroot : tin R n (bpn b n 0) = true) (hDq : ∃ v, DM b R n q = some v) : okT b (layM b (DM b R n) (cstM b R n) n 64 (some q) R) n ∧ (∀ p, p < 64 → tin R n p = true → tin (layM b (DM b R n) (cstM b R n) n 64 (some q) R) n p = true) ∧ tin (layM b (DM b R n) (cstM b R n) n 64 (some q) R) n q = true ∧ ∀ j, (j < n * 64 ∨ n * 64 + 64 ≤ j) → layM b (DM b R n) (cstM b R n) n 64 (some q) R j = R j := by
  obtain ⟨dep0, h0⟩ := h
  obtain ⟨M, hM⟩ := max_ex dep0 64
  have hT : ∀ p, p < 64 → tin R n p = true → insM b p = true := fun p hp ht => (h0 p hp ht).1
  have hc : ∀ p, 1 ≤ cstM b R n p := fun p => cst_in.1
  obtain ⟨v, hv⟩ := hDq
  obtain ⟨dep, hdp⟩ : ∃ f : Nat → Nat, ∀ x, f x = if tin R n x then dep0 x else M + 1 + (DM b R n x).getD 0 := ⟨fun x => if tin R n x then dep0 x else M + 1 + (DM b R n x).getD 0, fun _ => rfl⟩
  obtain ⟨j1, j2, j3, j4⟩ := lay_ok hb (dep := dep) hn (DM_FP (b := b) (R := R) (n := n)) hc hT hroot (fun p e v x hp he ht hv hx hlt => by
      rw [hdp, hdp, ht, hv]
      split
      · have := hM e he
        show dep0 e < M + 1 + v
        omega
      · rw [hx]
        show M + 1 + x < M + 1 + v
        omega) (k := 64) (o := some q) (R := R) (fun p hp ht => by
      obtain ⟨h1, h2⟩ := h0 p hp ht
      refine ⟨h1, ?_⟩
      rcases h2 with h2 | ⟨h3, v, q', hv, h4, h5, h6, h7⟩
      · exact Or.inl h2
      · have h8 : tin R n q' = true := by rcases h6 with h6 | h6; exact h6; cases h6
        refine Or.inr ⟨h3, v, q', hv, h4, h5, Or.inl h8, ?_⟩
        rw [hdp, hdp, if_pos h8, if_pos ht]
        exact h7) (fun q _ h => h) (fun x hx => by cases hx; exact ⟨hq, D_in hb DM_FP hc hT v q hq hv, v, hv⟩) (by omega)
  exact ⟨⟨_, j1⟩, j2, j3 q rfl, j4⟩
theorem grow_okT {b : zWo} (hb : bdOk b) {n : Nat} (hn : n < 6) : ∀ {k : Nat} {R : Nat → Int32}, okT b R n → tin R n (bpn b n 0) = true → okT b (growM b n k R) n ∧ tin (growM b n k R) n (bpn b n 0) = true ∧ ∀ j, (j < n * 64 ∨ n * 64 + 64 ≤ j) → growM b n k R j = R j
  | 0, R, h, hr => ⟨h, hr, fun j _ => rfl⟩
  | k + 1, R, h, hr => by
    simp only [growM]
    by_cases hj : jnd R (bpc b) (bpn b) n = true
    · rw [if_pos hj]
      exact ⟨h, hr, fun j _ => rfl⟩
    · rw [if_neg hj]
      cases hA : npM b (tin R n) (DM b R n) n (bpc b n) with
      | none => exact ⟨h, hr, fun j _ => rfl⟩
      | some a =>
        obtain ⟨q, u⟩ := a
        obtain ⟨h1, h2, i, hi, e⟩ := np_in hA
        have hq : q < 64 := by rw [← e]; exact (hb.2.2.2.2.2.2.1 n i hn hi).1
        obtain ⟨j1, j2, j3, j4⟩ := lay_okT hb hn hq h hr ⟨u, h2⟩
        have hr64 : bpn b n 0 < 64 := (hb.2.2.2.2.2.2.1 n 0 hn (by omega)).1
        obtain ⟨i1, i2, i3⟩ := grow_okT hb hn (k := k) j1 (j2 _ hr64 hr)
        exact ⟨i1, i2, fun j hj => (i3 j hj).trans (j4 j hj)⟩
end ZOk
