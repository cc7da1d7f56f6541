/-! ===== Router.spread ===== -/
def enc : Option Nat → Int32
  | none => 1000000
  | some a => nI a
/-- all but the router's own rows is as it was -/
def sb (I J : zI) : Prop := ∀ a, a ≠ 22 → a ≠ 24 → a ≠ 44 → a ≠ 45 → a ≠ 46 → a ≠ 47 → J a = I a
def keyS (S : Nat → Nat → Prop) (v : Int32) : Prop := ∃ a p, S a p ∧ v = nI (a * 64 + p)
theorem hpH_congr {f : Nat → Int32} {n : Nat} {S S' : Int32 → Prop} (h : hpH f n S) (e : ∀ v, S v ↔ S' v) : hpH f n S' := ⟨h.1, fun v => (e v).symm.trans (h.2.1 v), h.2.2⟩
def adB (bs : Nat → Int32) (e p : Nat) : Prop := ∃ v, v < 4 ∧ unI (bs (e * 4 + v)) = some p
def wlB (w : Nat → Int32) (p : Nat) : Bool := decide (¬ w p = 0)
theorem key_inj {a p a' p' : Nat} (ha : a ≤ 64000) (hp : p < 64) (ha' : a' ≤ 64000) (hp' : p' < 64) (e : nI (a * 64 + p) = nI (a' * 64 + p')) : a = a' ∧ p = p' := by
  have := (nI_eq (by omega) (by omega)).mp e
  omega
theorem cB_pos {f : Nat → Bool} : ∀ {n i : Nat}, i < n → f i = true → 0 < cB f n
  | n + 1, i, h, hf => by
    by_cases e : i = n
    · subst e; simp [cB, hf]
    · have := cB_pos (f := f) (n := n) (i := i) (by omega) hf
      simp only [cB]; omega
section ZSpread
variable {l : Launch} {Xi : zXi} {d : Nat} {I : zI} {g : zG}
/-- the price that priceOf answers in any memory that is as I but for the router's own rows -/
def cstI (I : zI) (s n q len : Nat) : Int32 := clampL ((evalL (nmF I s n q (hasB I s n q)) (I 23) (I 24) len).2 0)
theorem nmF_sb {I J : zI} (h : sb I J) {s n q : Nat} (hs : 60 < s) (b : Bool) : ∀ k, k < 8 → nmF J s n q b k = nmF I s n q b k := by
  intro k hk
  have e2 : J (s + 2) = I (s + 2) := h _ (by omega) (by omega) (by omega) (by omega) (by omega) (by omega)
  have e3 : J (s + 3) = I (s + 3) := h _ (by omega) (by omega) (by omega) (by omega) (by omega) (by omega)
  have e5 : J (s + 5) = I (s + 5) := h _ (by omega) (by omega) (by omega) (by omega) (by omega) (by omega)
  have e0 : J s = I s := h _ (by omega) (by omega) (by omega) (by omega) (by omega) (by omega)
  have e9 : J 9 = I 9 := h _ (by omega) (by omega) (by omega) (by omega) (by omega) (by omega)
  have e8 : J 8 = I 8 := h _ (by omega) (by omega) (by omega) (by omega) (by omega) (by omega)
  simp only [nmF, e0, e2, e3, e5, e8, e9]
  rcases (show k = 0 ∨ k = 1 ∨ k = 2 ∨ k = 3 ∨ k = 4 ∨ k = 5 ∨ k = 6 ∨ k = 7 by omega) with rfl | rfl | rfl | rfl | rfl | rfl | rfl | rfl <;> simp [upd]
theorem cst_sb {I J : zI} (h : sb I J) {s n q len : Nat} (hs : 60 < s) (hlaw : lawOk (I 23) len) : clampL ((evalL (nmF J s n q (hasB J s n q)) (J 23) (J 24) len).2 0) = cstI I s n q len := by
  have e23 : J 23 = I 23 := h _ (by omega) (by omega) (by omega) (by omega) (by omega) (by omega)
  have e1 : J (s + 1) = I (s + 1) := h _ (by omega) (by omega) (by omega) (by omega) (by omega) (by omega)
  have eh : hasB J s n q = hasB I s n q := by unfold hasB; rw [e1]
  unfold cstI
  rw [e23, eh]
  congr 1
  exact evalL_same hlaw (nmF_sb h hs _)
theorem sb_rfl : sb I I := fun _ _ _ _ _ _ _ => rfl
theorem sb_trans {I J K : zI} (h : sb I J) (h2 : sb J K) : sb I K := fun a q1 q2 q3 q4 q5 q6 => (h2 a q1 q2 q3 q4 q5 q6).trans (h a q1 q2 q3 q4 q5 q6)
theorem sb_up {I J : zI} {b : Nat} {f : Nat → Int32} (h : sb I J) (hb : b = 22 ∨ b = 24 ∨ b = 44 ∨ b = 45 ∨ b = 46 ∨ b = 47) : sb I (va_up J b f) := fun a q1 q2 q3 q4 q5 q6 => (va_up_row (by omega)).trans (h a q1 q2 q3 q4 q5 q6)
theorem sb_zup {I J : zI} {b j : Nat} {x : Int32} (h : sb I J) (hb : b = 22 ∨ b = 24 ∨ b = 44 ∨ b = 45 ∨ b = 46 ∨ b = 47) : sb I (zup J b j x) := sb_up h hb
/-- the search on its way, in the memory J -/
def spI (I J : zI) (s n : Nat) (c : Nat → Nat) (D F : Nat → Option Nat) (P : Nat → Bool) (S R : Nat → Nat → Prop) (sz : Nat) : Prop :=
  sb I J ∧ J 44 1 = nI sz ∧ hpH (J 45) sz (keyS S) ∧ (∀ q, q < 64 → J 46 q = enc (F q)) ∧ (∀ q, q < 64 → (J 47 q = 0 ∧ (F q = none ∨ tin (I (s + 1)) n q = true)) ∨ J 47 q = nI (c q)) ∧ dkK (tin (I (s + 1)) n) (wlB (I (s + 4))) c D F P S R
/-- what spread leaves behind -/
def spQ (I J : zI) (s n : Nat) (c : Nat → Nat) (D : Nat → Option Nat) (whole : Bool) : Prop :=
  sb I J ∧ ∃ (F : Nat → Option Nat) (Bd : Option Nat), (∀ q, q < 64 → (J 47 q = 0 ∧ (F q = none ∨ tin (I (s + 1)) n q = true)) ∨ J 47 q = nI (c q)) ∧ (∀ q, q < 64 → J 46 q = enc (F q)) ∧
    (∀ p, p < 64 → (∀ v, D p = some v → (∀ b, Bd = some b → v ≤ b) → F p = some v) ∧ ∀ v, F p = some v → v ≤ 64000 ∧ ∃ v', D p = some v' ∧ v' ≤ v) ∧
    (∀ b, Bd = some b → 0 < b ∧ ∃ q, q < 64 ∧ bitB (I 8 q) n = true ∧ D q = some b) ∧ (whole = true → Bd = none)
theorem sp_end {J : zI} {s n : Nat} {c : Nat → Nat} {D F : Nat → Option Nat} {P : Nat → Bool} {S : Nat → Nat → Prop} {sz : Nat} {whole : Bool} {Bd m : Option Nat} (hc : ∀ p, p < 64 → 1 ≤ c p) (hF : FPd (tin (I (s + 1)) n) (wlB (I (s + 4))) (adB (I 11)) c D) (h : spI I J s n c D F P S (adB (I 11)) sz) (hm : ∀ a p, S a p → ∃ k, m = some k ∧ k ≤ a) (hb : ∀ k, m = some k → ∃ b, Bd = some b ∧ b < k) (hB : ∀ b, Bd = some b → 0 < b ∧ ∃ q, q < 64 ∧ bitB (I 8 q) n = true ∧ D q = some b) (hw : whole = true → Bd = none) : spQ I J s n c D whole := by
  obtain ⟨h1, h2, h3, h4, h5, h6⟩ := h
  refine ⟨h1, F, Bd, h5, h4, fun p hp => ⟨fun v hv hle => ?_, fun v hv => ?_⟩, hB, hw⟩
  · refine (dk_near hc hF (dkK_I h6) m hm v p hp hv (fun k hk => ?_)).2
    obtain ⟨b, hb1, hb2⟩ := hb k hk
    have := hle b hb1
    omega
  · have := h6.1 p v hp hv
    have h7 := cB_le (f := P) (n := 64)
    exact ⟨by omega, this.1⟩
end ZSpread
