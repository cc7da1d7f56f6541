/-! ===== the world that class and reference share: a board with a law (zWo), a row R as the state ===== -/
section ZSpec
abbrev zWo : Type := (Nat × Nat × Nat) × (Nat → Nat) × (Nat → Nat → Nat) × (Nat → Nat) × Int32 × (Nat → Int32) × (Nat → Int32) × Nat
def bC (b : zWo) : Nat := b.1.1
def bR (b : zWo) : Nat := b.1.2.1
def bN (b : zWo) : Nat := b.1.2.2
def bpc (b : zWo) : Nat → Nat := b.2.1
def bpn (b : zWo) : Nat → Nat → Nat := b.2.2.1
def bwd (b : zWo) : Nat → Nat := b.2.2.2.1
def bgn (b : zWo) : Int32 := b.2.2.2.2.1
def blm (b : zWo) : Nat → Int32 := b.2.2.2.2.2.1
def bcs (b : zWo) : Nat → Int32 := b.2.2.2.2.2.2.1
def bln (b : zWo) : Nat := b.2.2.2.2.2.2.2
def nbr (b : zWo) (p v : Nat) : Option Nat :=
  if v = 0 then (if 0 < p / 8 then some (p - 8) else none)
  else if v = 1 then (if p % 8 + 1 < bC b then some (p + 1) else none)
  else if v = 2 then (if p / 8 + 1 < bR b then some (p + 8) else none)
  else if v = 3 then (if 0 < p % 8 then some (p - 1) else none) else none
def insM (b : zWo) (p : Nat) : Bool := insB (bC b) (bR b) p
def bdOk (b : zWo) : Prop := 2 ≤ bC b ∧ bC b ≤ 8 ∧ 2 ≤ bR b ∧ bR b ≤ 8 ∧ bN b ≤ 6 ∧ (∀ n, n < 6 → bpc b n ≤ 4) ∧ (∀ n i, n < 6 → i < bpc b n → bpn b n i < 64 ∧ insM b (bpn b n i) = true) ∧ (∀ n i j, n < 6 → i < j → j < bpc b n → bpn b n i ≠ bpn b n j) ∧ (∀ p, p < 64 → 1 ≤ bwd b p ∧ bwd b p ≤ 3) ∧ lawOk (bcs b) (bln b)
theorem nbr_lt {b : zWo} (hb : bdOk b) {p v q : Nat} (hp : p < 64) (h : nbr b p v = some q) : q < 64 := by
  obtain ⟨h1, h2, h3, h4, -⟩ := hb
  unfold nbr at h
  repeat' split at h
  all_goals first
    | (injection h with h; omega)
    | cases h
theorem insM_iff {b : zWo} {p : Nat} : insM b p = true ↔ p % 8 < bC b ∧ p / 8 < bR b := by
  simp [insM, insB]
theorem nbr_ins {b : zWo} {p v q : Nat} (hb : bdOk b) (hp : insM b p = true) (h : nbr b p v = some q) : insM b q = true := by
  rw [insM_iff] at *
  obtain ⟨h1, h2, h3, h4, -⟩ := hb
  unfold nbr at h
  repeat' split at h
  all_goals first
    | (injection h with h; omega)
    | cases h
/-- whoever has p beside it lies beside p -/
theorem nbr_sym {b : zWo} {p v q : Nat} (hb : bdOk b) (hp : insM b p = true) (hv : v < 4) (h : nbr b p v = some q) : nbr b q ((v + 2) % 4) = some p := by
  rw [insM_iff] at *
  obtain ⟨h1, h2, h3, h4, -⟩ := hb
  have hv4 : v = 0 ∨ v = 1 ∨ v = 2 ∨ v = 3 := by omega
  unfold nbr at h
  unfold nbr
  rcases hv4 with rfl | rfl | rfl | rfl
  · simp only [show ((0 : Nat) = 0) = True by simp, if_true] at h
    split at h
    · injection h with h
      rw [if_neg (by decide), if_neg (by decide), if_pos (by decide), if_pos (by omega)]
      congr 1; omega
    · cases h
  · rw [if_neg (by decide), if_pos (by decide)] at h
    split at h
    · injection h with h
      rw [if_neg (by decide), if_neg (by decide), if_neg (by decide), if_pos (by decide), if_pos (by omega)]
      congr 1; omega
    · cases h
  · rw [if_neg (by decide), if_neg (by decide), if_pos (by decide)] at h
    split at h
    · injection h with h
      rw [if_pos (by decide), if_pos (by omega)]
      congr 1; omega
    · cases h
  · rw [if_neg (by decide), if_neg (by decide), if_neg (by decide), if_pos (by decide)] at h
    split at h
    · injection h with h
      rw [if_neg (by decide), if_pos (by decide), if_pos (by omega)]
      congr 1; omega
    · cases h
def anyB (f : Nat → Bool) : Nat → Bool
  | 0 => false
  | k + 1 => anyB f k || f k
theorem anyB_iff {f : Nat → Bool} : ∀ {n : Nat}, anyB f n = true ↔ ∃ i, i < n ∧ f i = true
  | 0 => ⟨fun h => (by cases h), fun ⟨i, h, _⟩ => (by omega)⟩
  | n + 1 => by
    have ih := anyB_iff (f := f) (n := n)
    simp only [anyB, Bool.or_eq_true, ih]
    constructor
    · rintro (⟨i, h1, h2⟩ | h)
      · exact ⟨i, by omega, h2⟩
      · exact ⟨n, by omega, h⟩
    · rintro ⟨i, h1, h2⟩
      rcases Nat.lt_or_ge i n with z | z
      · exact Or.inl ⟨i, z, h2⟩
      · exact Or.inr (by rw [show n = i by omega]; exact h2)
/-- whether a place bears a pin of a net -/
def pbB (b : zWo) (p n : Nat) : Bool := anyB (fun i => decide (bpn b n i = p)) (bpc b n)
def usn (R : Nat → Int32) (p : Nat) : Nat := cB (fun n => tin R n p) 6
def oth (R : Nat → Int32) (n p : Nat) : Nat := cB (fun m => tin R m p && decide (m ≠ n)) 6
def pinO (b : zWo) (n p : Nat) : Nat := cB (fun m => pbB b p m && decide (m ≠ n)) (bN b)
def ovN (b : zWo) (R : Nat → Int32) (p : Nat) : Nat := usn R p - bwd b p
def nmM (b : zWo) (R : Nat → Int32) (n p : Nat) : Nat → Int32
  | 0 => R (384 + p)
  | 1 => nI (oth R n p + 1 - bwd b p)
  | 2 => R (512 + n)
  | 3 => R 518
  | 4 => nI (bwd b p)
  | 5 => nI (p % 8)
  | 6 => nI (p / 8)
  | _ => nI (pinO b n p)
def lawV (b : zWo) (nm : Nat → Int32) : Int32 := clampL ((evalL nm (bcs b) (fun _ => 0) (bln b)).2 0)
def cstM (b : zWo) (R : Nat → Int32) (n p : Nat) : Nat := (lawV b (nmM b R n p)).toNatClampNeg
theorem cst_in {b : zWo} {R : Nat → Int32} {n p : Nat} : 1 ≤ cstM b R n p ∧ cstM b R n p ≤ 999 ∧ lawV b (nmM b R n p) = nI (cstM b R n p) := by
  obtain ⟨k, h1, h2, h3⟩ := clampL_in (x := (evalL (nmM b R n p) (bcs b) (fun _ => 0) (bln b)).2 0)
  have : cstM b R n p = k := by
    unfold cstM lawV
    rw [h3, nI_clamp (by omega)]
  rw [this]
  exact ⟨h1, h2, h3⟩
/-! distances exist -/
def rch (T wl : Nat → Bool) (ad : Nat → Nat → Prop) (c : Nat → Nat) : Nat → Nat → Nat → Prop
  | 0, v, p => T p = true ∧ v = 0
  | k + 1, v, p => rch T wl ad c k v p ∨ (T p = false ∧ wl p = false ∧ ∃ e a, e < 64 ∧ ad e p ∧ rch T wl ad c k a e ∧ v = a + c p)
theorem rch_up {T wl : Nat → Bool} {ad : Nat → Nat → Prop} {c : Nat → Nat} {k v p : Nat} (h : rch T wl ad c k v p) : rch T wl ad c (k + 1) v p := Or.inl h
theorem rch_T {T wl : Nat → Bool} {ad : Nat → Nat → Prop} {c : Nat → Nat} {p : Nat} (hT : T p = true) : ∀ {k v : Nat}, rch T wl ad c k v p → v = 0
  | 0, v, h => h.2
  | k + 1, v, h => by
    rcases h with h | ⟨h, -⟩
    · exact rch_T hT h
    · rw [hT] at h; cases h
theorem rch_in {T wl : Nat → Bool} {ad : Nat → Nat → Prop} {c : Nat → Nat} {p : Nat} (hT : T p = false) : ∀ {k v : Nat}, rch T wl ad c k v p → wl p = false ∧ ∃ k e a, e < 64 ∧ ad e p ∧ rch T wl ad c k a e ∧ v = a + c p
  | 0, v, h => by have h9 := h.1; rw [hT] at h9; cases h9
  | k + 1, v, h => by
    rcases h with h | ⟨-, h1, e, a, h2⟩
    · exact rch_in hT h
    · exact ⟨h1, k, e, a, h2⟩
theorem least_ex {P : Nat → Prop} : ∀ {v : Nat}, P v → ∃ m, P m ∧ ∀ k, P k → m ≤ k := by
  intro v
  induction v using Nat.strongRecOn with
  | _ v ih =>
    intro hv
    by_cases h : ∃ k, k < v ∧ P k
    · obtain ⟨k, h1, h2⟩ := h
      exact ih k h1 h2
    · exact ⟨v, hv, fun k hk => Nat.le_of_not_lt (fun z => h ⟨k, z, hk⟩)⟩
theorem FPd_ex (T wl : Nat → Bool) (ad : Nat → Nat → Prop) (c : Nat → Nat) : ∃ D : Nat → Option Nat, FPd T wl ad c D := by
  have h : ∀ p, ∃ o : Option Nat, (o = none ∧ ∀ k v, ¬ rch T wl ad c k v p) ∨ ∃ v, o = some v ∧ (∃ k, rch T wl ad c k v p) ∧ ∀ k v', rch T wl ad c k v' p → v ≤ v' := by
    intro p
    by_cases e : ∃ v, ∃ k, rch T wl ad c k v p
    · obtain ⟨v, hv⟩ := e
      obtain ⟨m, hm, hle⟩ := least_ex (P := fun v => ∃ k, rch T wl ad c k v p) hv
      exact ⟨some m, Or.inr ⟨m, rfl, hm, fun k v' hk => hle v' ⟨k, hk⟩⟩⟩
    · exact ⟨none, Or.inl ⟨rfl, fun k v hk => e ⟨v, k, hk⟩⟩⟩
  refine ⟨fun p => Classical.choose (h p), fun p hp => ?_⟩
  have H := fun p => Classical.choose_spec (h p)
  refine ⟨fun hT => ?_, fun hT hw => ?_, fun hT hw => ⟨fun e a he had hDe => ?_, fun b hDb => ?_⟩⟩
  · rcases H p with ⟨-, h2⟩ | ⟨v, h1, ⟨k, hk⟩, h3⟩
    · exact absurd (show rch T wl ad c 0 0 p from ⟨hT, rfl⟩) (h2 0 0)
    · show Classical.choose (h p) = some 0
      rw [h1, rch_T hT hk]
  · rcases H p with ⟨h1, -⟩ | ⟨v, h1, ⟨k, hk⟩, h3⟩
    · exact h1
    · have := (rch_in hT hk).1
      rw [hw] at this; cases this
  · rcases H e with ⟨h1, -⟩ | ⟨v, h1, ⟨k, hk⟩, -⟩
    · have h9 : Classical.choose (h e) = some a := hDe
      rw [h1] at h9; cases h9
    · have h9 : Classical.choose (h e) = some a := hDe
      rw [h1] at h9
      obtain rfl : v = a := by injection h9
      have hr : rch T wl ad c (k + 1) (v + c p) p := Or.inr ⟨hT, hw, e, v, he, had, hk, rfl⟩
      rcases H p with ⟨-, h2⟩ | ⟨u, h4, -, h5⟩
      · exact absurd hr (h2 _ _)
      · exact ⟨u, h4, h5 _ _ hr⟩
  · rcases H p with ⟨h1, -⟩ | ⟨v, h1, ⟨k, hk⟩, hle⟩
    · have h9 : Classical.choose (h p) = some b := hDb
      rw [h1] at h9; cases h9
    · have h9 : Classical.choose (h p) = some b := hDb
      rw [h1] at h9; cases h9
      obtain ⟨-, k', e, a, he, had, hr, hv⟩ := rch_in hT hk
      rcases H e with ⟨-, h2⟩ | ⟨u, h4, ⟨k2, hk2⟩, h5⟩
      · exact absurd hr (h2 _ _)
      · have h6 := h5 _ _ hr
        have h7 := hle _ _ (show rch T wl ad c (k2 + 1) (u + c p) p from Or.inr ⟨hT, hw, e, u, he, had, hk2, rfl⟩)
        exact ⟨e, u, he, had, h4, by omega⟩
def adM (b : zWo) (e p : Nat) : Prop := ∃ v, v < 4 ∧ nbr b e v = some p
def wlR (R : Nat → Int32) (p : Nat) : Bool := decide (¬ R (448 + p) = 0)
noncomputable def DM (b : zWo) (R : Nat → Int32) (n : Nat) : Nat → Option Nat := Classical.choose (FPd_ex (tin R n) (wlR R) (adM b) (cstM b R n))
theorem DM_FP {b : zWo} {R : Nat → Int32} {n : Nat} : FPd (tin R n) (wlR R) (adM b) (cstM b R n) (DM b R n) := Classical.choose_spec (FPd_ex (tin R n) (wlR R) (adM b) (cstM b R n))
/-! what the router does with a row -/
def npM (b : zWo) (T : Nat → Bool) (D : Nat → Option Nat) (n : Nat) : Nat → Option (Nat × Nat)
  | 0 => none
  | i + 1 => if T (bpn b n i) then npM b T D n i else match D (bpn b n i) with
    | none => npM b T D n i
    | some v => match npM b T D n i with
      | none => some (bpn b n i, v)
      | some (q, u) => if v < u then some (bpn b n i, v) else some (q, u)
def wbB (b : zWo) (D : Nat → Option Nat) (c : Nat → Nat) (p v : Nat) : Bool := match nbr b p v with
  | none => false
  | some e => match D e with
    | none => false
    | some x => decide (D p = some (x + c p))
def wbM (b : zWo) (D : Nat → Option Nat) (c : Nat → Nat) (p : Nat) : Option Nat := if wbB b D c p 0 then some 0 else if wbB b D c p 1 then some 1 else if wbB b D c p 2 then some 2 else if wbB b D c p 3 then some 3 else none
def layM (b : zWo) (D : Nat → Option Nat) (c : Nat → Nat) (n : Nat) : Nat → Option Nat → (Nat → Int32) → Nat → Int32
  | 0, _, R => R
  | _ + 1, none, R => R
  | k + 1, some p, R => if tin R n p then R else match wbM b D c p with
    | none => R
    | some v => layM b D c n k (nbr b p v) (upd R (n * 64 + p) (nI v))
noncomputable def growM (b : zWo) (n : Nat) : Nat → (Nat → Int32) → Nat → Int32
  | 0, R => R
  | k + 1, R => if jnd R (bpc b) (bpn b) n then R else match npM b (tin R n) (DM b R n) n (bpc b n) with
    | none => R
    | some (q, _) => growM b n k (layM b (DM b R n) (cstM b R n) n 64 (some q) R)
def ripM (R : Nat → Int32) (n : Nat) : Nat → Int32 := fun k => if n * 64 ≤ k ∧ k < n * 64 + 64 then -1 else R k
def parM (b : zWo) (R : Nat → Int32) (n p : Nat) : Option Nat := if R (n * 64 + p) = -1 ∨ R (n * 64 + p) = 4 then none else nbr b p (R (n * 64 + p)).toNatClampNeg
def clrM (b : zWo) (R : Nat → Int32) (n : Nat) : Nat → Option Nat → Bool
  | 0, _ => true
  | _ + 1, none => true
  | k + 1, some p => if p = bpn b n 0 then true else if 0 < ovN b R p then false else clrM b R n k (parM b R n p)
def kepM (b : zWo) (R : Nat → Int32) (n p : Nat) : Bool := decide (p = bpn b n 0) || (tin R n p && clrM b R n 64 (some p))
def teaM (b : zWo) (R : Nat → Int32) (n : Nat) : Nat → Int32 := upd (fun k => if n * 64 ≤ k ∧ k < n * 64 + 64 ∧ kepM b R n (k - n * 64) = false then -1 else R k) (n * 64 + bpn b n 0) 4
noncomputable def layA (b : zWo) (R : Nat → Int32) (n : Nat) : Nat → Int32 := growM b n 4 (upd (ripM R n) (n * 64 + bpn b n 0) 4)
def ovPl (b : zWo) (R : Nat → Int32) (n : Nat) : Nat := cB (fun p => tin R n p && decide (0 < ovN b R p)) 64
def styM (b : zWo) (R : Nat → Int32) (n : Nat) : Bool := decide (bpc b n = 0) || (jnd R (bpc b) (bpn b) n && decide (ovPl b R n = 0))
noncomputable def rndN (b : zWo) (R : Nat → Int32) : Nat → Nat → Int32 := lp (fun n a => if styM b a n then a else growM b n 4 (teaM b a n)) R
def hisM (b : zWo) (R : Nat → Int32) : Nat → Int32 := fun k => if 384 ≤ k ∧ k < 448 then (let h := R k + nI (ovN b R (k - 384)) * bgn b; if h < nI 9999 then h else nI 9999) else R k
noncomputable def rndM (b : zWo) (R : Nat → Int32) : Nat → Int32 := let a := hisM b (rndN b R (bN b)); upd a 518 (a 518 + 1)
def easM (R : Nat → Int32) (v : Int32) : Nat → Int32 := fun k => if 384 ≤ k ∧ k < 448 then (if R k - v ≤ 0 then 0 else R k - v) else R k
end ZSpec
