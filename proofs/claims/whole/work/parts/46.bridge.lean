/-! ===== the class's memory holds the shared world ===== -/
section ZBridge
theorem cB_congr {f f' : Nat → Bool} : ∀ {n : Nat}, (∀ k, k < n → f k = f' k) → cB f n = cB f' n
  | 0, _ => rfl
  | n + 1, h => by
    simp only [cB]
    rw [cB_congr (fun k hk => h k (by omega)), h n (by omega)]
theorem mask6 (f : Nat → Bool) : ∃ m, m < 64 ∧ ∀ k, k < 6 → f k = m.testBit k := by
  have H : ∀ b0 b1 b2 b3 b4 b5 : Bool, ∃ m, m < 64 ∧ b0 = Nat.testBit m 0 ∧ b1 = Nat.testBit m 1 ∧ b2 = Nat.testBit m 2 ∧ b3 = Nat.testBit m 3 ∧ b4 = Nat.testBit m 4 ∧ b5 = Nat.testBit m 5 := by
    intro b0 b1 b2 b3 b4 b5
    refine ⟨b0.toNat + 2 * b1.toNat + 4 * b2.toNat + 8 * b3.toNat + 16 * b4.toNat + 32 * b5.toNat, ?_⟩
    revert b0 b1 b2 b3 b4 b5
    decide
  obtain ⟨m, hm, h0, h1, h2, h3, h4, h5⟩ := H (f 0) (f 1) (f 2) (f 3) (f 4) (f 5)
  refine ⟨m, hm, fun k hk => ?_⟩
  have : k = 0 ∨ k = 1 ∨ k = 2 ∨ k = 3 ∨ k = 4 ∨ k = 5 := by omega
  rcases this with rfl | rfl | rfl | rfl | rfl | rfl <;> assumption
theorem bitF_congr {f f' : Nat → Bool} {n : Nat} (h : ∀ k, k < n → f k = f' k) : bitF f n = bitF f' n := lp_congr (fun k hk x => by rw [h k hk])
theorem bc_tab : ∀ m, m < 64 → ∀ n, n < 6 → ∀ N, N < 7 → bcE (bitF (fun k => Nat.testBit m k) N &&& ((nI 1 <<< (nI n &&& 31)) ^^^ (-1))) = nI (cB (fun k => Nat.testBit m k && decide (k ≠ n)) N) := by decide +kernel
theorem bc_oth {f : Nat → Bool} {n N : Nat} (hn : n < 6) (hN : N ≤ 6) : bcE (bitF f N &&& ((nI 1 <<< (nI n &&& 31)) ^^^ (-1))) = nI (cB (fun k => f k && decide (k ≠ n)) N) := by
  obtain ⟨m, hm, h⟩ := mask6 f
  rw [bitF_congr (fun k hk => h k (by omega)), bc_tab m hm n hn N (by omega)]
  congr 1
  exact cB_congr (fun k hk => by rw [h k (by omega)])
theorem bit_tab : ∀ m, m < 64 → ∀ n, n < 6 → ∀ N, N < 7 → n < N → bitB (bitF (fun k => Nat.testBit m k) N) n = Nat.testBit m n := by decide +kernel
theorem bit_F {f : Nat → Bool} {n N : Nat} (hn : n < N) (hN : N ≤ 6) : bitB (bitF f N) n = f n := by
  obtain ⟨m, hm, h⟩ := mask6 f
  rw [bitF_congr (fun k hk => h k (by omega)), bit_tab m hm n (by omega) N (by omega) hn, h n (by omega)]
def zWi (I : zI) (b : zWo) : Prop := bdOk b ∧ zBd I 3 (bC b) (bR b) (bN b) (bpc b) (bpn b) ∧ I 3 3 = bgn b ∧ (∀ n, n < 6 → I 5 n = blm b n) ∧ (∀ p, p < 64 → I 9 p = nI (bwd b p)) ∧ (∀ p, p < 64 → I 8 p = bitF (pbB b p) (bN b)) ∧ (∀ p v, p < 64 → v < 4 → I 11 (p * 4 + v) = oI (nbr b p v)) ∧ I 21 3 = nI (bln b) ∧ (∀ i, i < bln b → I 23 i = bcs b i) ∧ ∀ n, bN b ≤ n → n < 6 → bpc b n = 0
def zRow (I : zI) (s : Nat) (R : Nat → Int32) : Prop := (∀ k, k < 384 → I (s + 1) k = R k) ∧ (∀ p, p < 64 → I (s + 2) p = nI (usn R p)) ∧ (∀ p, p < 64 → I (s + 3) p = R (384 + p)) ∧ (∀ p, p < 64 → I (s + 4) p = R (448 + p)) ∧ (∀ n, n < 6 → I (s + 5) n = R (512 + n)) ∧ I s 5 = R 518
/-- all but the router's own things and the state s is as it was -/
def fX (s : Nat) (I J : zI) : Prop := ∀ a, a ≠ 22 → a ≠ 24 → a ≠ 42 → a ≠ 44 → a ≠ 45 → a ≠ 46 → a ≠ 47 → a ≠ 48 → (a < s ∨ s + 5 < a) → J a = I a
theorem fX_rfl {s : Nat} {I : zI} : fX s I I := fun _ _ _ _ _ _ _ _ _ _ => rfl
theorem fX_trans {s : Nat} {I J K : zI} (h : fX s I J) (h2 : fX s J K) : fX s I K := fun a q1 q2 q3 q4 q5 q6 q7 q8 q9 => (h2 a q1 q2 q3 q4 q5 q6 q7 q8 q9).trans (h a q1 q2 q3 q4 q5 q6 q7 q8 q9)
theorem fX_sb {s : Nat} {I J : zI} (h : sb I J) : fX s I J := fun a q1 q2 _ q4 q5 q6 q7 _ _ => h a q1 q2 q4 q5 q6 q7
theorem fX_up {s a : Nat} {I J : zI} {f : Nat → Int32} (h : fX s I J) (ha : a = 22 ∨ a = 24 ∨ a = 42 ∨ a = 44 ∨ a = 45 ∨ a = 46 ∨ a = 47 ∨ a = 48 ∨ (s ≤ a ∧ a ≤ s + 5)) : fX s I (va_up J a f) := fun x q1 q2 q3 q4 q5 q6 q7 q8 q9 => (va_up_row (by omega)).trans (h x q1 q2 q3 q4 q5 q6 q7 q8 q9)
theorem fX_zup {s a k : Nat} {x : Int32} {I J : zI} (h : fX s I J) (ha : a = 22 ∨ a = 24 ∨ a = 42 ∨ a = 44 ∨ a = 45 ∨ a = 46 ∨ a = 47 ∨ a = 48 ∨ (s ≤ a ∧ a ≤ s + 5)) : fX s I (zup J a k x) := fX_up h ha
theorem fX_put {s n p : Nat} {w : Int32} {I J : zI} (h : fX s I J) : fX s I (f_put J s n p w) := by
  unfold f_put
  split
  · exact fX_zup h (by omega)
  · exact fX_zup (fX_zup h (by omega)) (by omega)
theorem fX_drop {s n p : Nat} {I J : zI} (h : fX s I J) : fX s I (f_drop J s n p) := by
  unfold f_drop
  split
  · exact fX_zup (fX_zup h (by omega)) (by omega)
  · exact fX_zup h (by omega)
theorem zWi_fX {s : Nat} {I J : zI} {b : zWo} (hs : 60 < s) (h : zWi I b) (hf : fX s I J) : zWi J b := by
  have e : ∀ a, a < 22 ∨ a = 23 → J a = I a := fun a ha => hf a (by omega) (by omega) (by omega) (by omega) (by omega) (by omega) (by omega) (by omega) (by omega)
  unfold zWi zBd at *
  rw [e 3 (by omega), e (3 + 3) (by omega), e (3 + 4) (by omega), e 5 (by omega), e 9 (by omega), e 8 (by omega), e 11 (by omega), e 21 (by omega), e 23 (by omega)]
  exact h
theorem zRow_sb {s : Nat} {I J : zI} {R : Nat → Int32} (hs : 60 < s) (h : zRow I s R) (hf : sb I J) : zRow J s R := by
  have e : ∀ a, 60 < a → J a = I a := fun a ha => hf a (by omega) (by omega) (by omega) (by omega) (by omega) (by omega)
  unfold zRow at *
  rw [e (s + 1) (by omega), e (s + 2) (by omega), e (s + 3) (by omega), e (s + 4) (by omega), e (s + 5) (by omega), e s (by omega)]
  exact h
theorem zRow_of {s : Nat} {I J : zI} {R : Nat → Int32} (h : zRow I s R) (e : ∀ a, s ≤ a → a ≤ s + 5 → J a = I a) : zRow J s R := by
  unfold zRow at *
  rw [e (s + 1) (by omega) (by omega), e (s + 2) (by omega) (by omega), e (s + 3) (by omega) (by omega), e (s + 4) (by omega) (by omega), e (s + 5) (by omega) (by omega), e s (by omega) (by omega)]
  exact h
theorem tin_congr {f f' : Nat → Int32} {n p : Nat} (h : f (n * 64 + p) = f' (n * 64 + p)) : tin f n p = tin f' n p := by unfold tin; rw [h]
theorem zRow_tin {s n p : Nat} {I : zI} {R : Nat → Int32} (h : zRow I s R) (hn : n < 6) (hp : p < 64) : tin (I (s + 1)) n p = tin R n p := tin_congr (h.1 _ (by omega))
theorem zRow_has {s n p : Nat} {I : zI} {R : Nat → Int32} (h : zRow I s R) (hn : n < 6) (hp : p < 64) : hasB I s n p = tin R n p := zRow_tin h hn hp
theorem zup_self {I : zI} {a k : Nat} : zup I a k (I a k) = I := by
  funext x
  by_cases e : x = a
  · subst e; rw [zup_same]; funext j; by_cases h : j = k
    · rw [h, upd_at]
    · rw [upd_ne h]
  · rw [zup_row e]
def clrB (f : Nat → Bool) (i : Nat) : Nat → Bool := fun k => if k = i then false else f k
theorem cB_clrO {f : Nat → Bool} {i : Nat} : ∀ {n : Nat}, n ≤ i → cB (clrB f i) n = cB f n := fun h => cB_congr (fun k hk => by simp [clrB]; omega)
theorem cB_clr {f : Nat → Bool} {i : Nat} : ∀ {n : Nat}, i < n → cB f n = cB (clrB f i) n + (if f i then 1 else 0)
  | 0, h => by omega
  | n + 1, h => by
    simp only [cB]
    rcases Nat.lt_or_ge i n with z | z
    · rw [cB_clr z]
      simp [clrB, show n ≠ i by omega]
      omega
    · obtain rfl : i = n := by omega
      rw [cB_clrO (Nat.le_refl _)]
      simp [clrB]
theorem usn_oth {R : Nat → Int32} {n p : Nat} (hn : n < 6) : usn R p = oth R n p + (if tin R n p then 1 else 0) := by
  unfold usn oth
  rw [cB_clr hn]
  congr 1
  exact cB_congr (fun k hk => by simp [clrB]; by_cases e : k = n <;> simp [e])
theorem oth_le {R : Nat → Int32} {n p : Nat} : oth R n p ≤ 6 := cB_le
theorem usn_le {R : Nat → Int32} {p : Nat} : usn R p ≤ 6 := cB_le
theorem tin_upd {R : Nat → Int32} {n p m q : Nat} {w : Int32} (hn : n < 6) (hp : p < 64) (hm : m < 6) (hq : q < 64) : tin (upd R (n * 64 + p) w) m q = if m = n ∧ q = p then decide (¬ w = -1) else tin R m q := by
  unfold tin
  split
  · next h => rw [h.1, h.2, upd_at]
  · next h => rw [upd_ne (by omega)]
theorem oth_upd {R : Nat → Int32} {n p q : Nat} {w : Int32} (hn : n < 6) (hp : p < 64) (hq : q < 64) : oth (upd R (n * 64 + p) w) n q = oth R n q := cB_congr (fun m hm => by
  rw [tin_upd hn hp hm hq]
  by_cases e : m = n
  · simp [e]
  · simp [e])
theorem usn_upd {R : Nat → Int32} {n p : Nat} {w : Int32} (hn : n < 6) (hp : p < 64) : usn (upd R (n * 64 + p) w) p = oth R n p + (if w = -1 then 0 else 1) := by
  rw [usn_oth hn, oth_upd hn hp hp, tin_upd hn hp hn hp]
  by_cases e : w = -1 <;> simp [e]
theorem usn_updo {R : Nat → Int32} {n p q : Nat} {w : Int32} (hn : n < 6) (hp : p < 64) (hq : q < 64) (h : q ≠ p) : usn (upd R (n * 64 + p) w) q = usn R q := cB_congr (fun m hm => by rw [tin_upd hn hp hm hq]; simp [h])
theorem zRow_w {s n p : Nat} {I : zI} {R : Nat → Int32} {w u : Int32} (hn : n < 6) (hp : p < 64) (h : zRow I s R) (hu : u = nI (usn (upd R (n * 64 + p) w) p)) : zRow (zup (zup I (s + 2) p u) (s + 1) (n * 64 + p) w) s (upd R (n * 64 + p) w) := by
  obtain ⟨h1, h2, h3, h4, h5, h6⟩ := h
  refine ⟨fun k hk => ?_, fun q hq => ?_, fun q hq => ?_, fun q hq => ?_, fun m hm => ?_, ?_⟩
  · rw [zup_same, zup_row (by omega)]
    by_cases e : k = n * 64 + p
    · rw [e, upd_at, upd_at]
    · rw [upd_ne e, upd_ne e]; exact h1 k hk
  · rw [zup_row (by omega), zup_same]
    by_cases e : q = p
    · rw [e, upd_at, hu]
    · rw [upd_ne e, usn_updo hn hp hq e]; exact h2 q hq
  · rw [zup_row (by omega), zup_row (by omega), upd_ne (by omega)]; exact h3 q hq
  · rw [zup_row (by omega), zup_row (by omega), upd_ne (by omega)]; exact h4 q hq
  · rw [zup_row (by omega), zup_row (by omega), upd_ne (by omega)]; exact h5 m hm
  · rw [zup_row (by omega), zup_row (by omega), upd_ne (by omega)]; exact h6
theorem zRow_put {s n p : Nat} {I : zI} {R : Nat → Int32} {w : Int32} (hn : n < 6) (hp : p < 64) (hw : ¬ w = -1) (h : zRow I s R) : zRow (f_put I s n p w) s (upd R (n * 64 + p) w) := by
  unfold f_put
  rw [zRow_has h hn hp]
  have hu := usn_oth (R := R) (p := p) hn
  by_cases e : tin R n p = true
  · rw [if_pos e]
    rw [if_pos e] at hu
    have hk := zRow_w (u := I (s + 2) p) hn hp h (w := w) (by rw [usn_upd hn hp, if_neg hw, h.2.1 p hp, hu])
    rw [show zup I (s + 2) p (I (s + 2) p) = I from zup_self] at hk
    exact hk
  · rw [if_neg e]
    rw [if_neg e] at hu
    refine zRow_w hn hp h ?_
    rw [usn_upd hn hp, if_neg hw, h.2.1 p hp, hu]
    exact nI_add _ 1
theorem zRow_drop {s n p : Nat} {I : zI} {R : Nat → Int32} (hn : n < 6) (hp : p < 64) (h : zRow I s R) : zRow (f_drop I s n p) s (upd R (n * 64 + p) (-1)) := by
  unfold f_drop
  rw [zRow_has h hn hp]
  have hu := usn_oth (R := R) (p := p) hn
  by_cases e : tin R n p = true
  · rw [if_pos e]
    rw [if_pos e] at hu
    refine zRow_w hn hp h ?_
    rw [usn_upd hn hp, if_pos rfl, h.2.1 p hp, hu]
    exact pk_sub (a := oth R n p + 1) (b := 1) (Nat.le_add_left 1 _)
  · rw [if_neg e]
    rw [if_neg e] at hu
    have hk := zRow_w (u := I (s + 2) p) hn hp h (w := -1) (by rw [usn_upd hn hp, if_pos rfl, h.2.1 p hp, hu])
    rw [show zup I (s + 2) p (I (s + 2) p) = I from zup_self] at hk
    exact hk
end ZBridge
