/-! ===== the reference's memory holds the whole ===== -/
section ZRefO
variable {l : Launch} {Xi : zXi} {d : Nat} {I : zI} {g : zG}
/-- a row kept within a longer one -/
def kR (I : zI) (c off : Nat) (b : zWo) (R : rwT) : Prop := rRow (fun _ j => I c (off + j)) 0 b R
def rTp (I : zI) (fed : Nat) (bs : Nat → Nat) : Prop := I 74 1 = nI fed ∧ fed ≤ 600 ∧ ∀ k, k < fed → I 75 k = nI (bs k) ∧ bs k < 256
def rLn (I : zI) (bk : List (Nat × Nat)) : Prop := I 74 35 = nI bk.length ∧ bk.length ≤ 8 ∧ ∀ i, i < bk.length → I (432 + 1 + i) 0 = nI (bkP bk i) ∧ I (432 + 1 + i) 1 = nI (bkW bk i) ∧ bkP bk i < 64 ∧ bkW bk i ≤ 6
def rWs (I : zI) (b : zWo) (w : Nat) (W : Nat → rwT) : Prop := I 74 36 = nI w ∧ w ≤ 16 ∧ ∀ i, i < w → rRow I (536 + 1 + i) b (W i)
def rIm (I : zI) (b : zWo) (m : Nat) (Pr : Nat → rwT) (Pw : Nat → Nat) (Pa : Nat → Nat → rwT) : Prop := I 74 38 = nI m ∧ m ≤ 3 ∧ ∀ k, k < m → I (553 + 1 + k) 0 = nI (Pw k) ∧ Pw k ≤ 16 ∧ kR I (553 + 1 + k) 1 b (Pr k) ∧ ∀ i, i < Pw k → kR I (553 + 1 + k) (1 + 519 * (i + 1)) b (Pa k i)
def rI (I : zI) (S : sT) : Prop := rTp I S.1.1 S.1.2.1 ∧ I 74 3 = S.1.2.2 ∧ rB I S.2.1 ∧ rRow I 533 S.2.1 S.2.2.1 ∧ rLn I S.2.2.2.1 ∧ rWs I S.2.1 S.2.2.2.2.1.1 S.2.2.2.2.1.2 ∧ rIm I S.2.1 S.2.2.2.2.2.1.1 S.2.2.2.2.2.1.2.1 S.2.2.2.2.2.1.2.2.1 S.2.2.2.2.2.1.2.2.2 ∧ I 74 37 = nI S.2.2.2.2.2.2.1 ∧ I 76 0 = S.2.2.2.2.2.2.2.1 ∧ I 76 1 = S.2.2.2.2.2.2.2.2
/-- a question changes scratch alone, and in the object itself: thrown, lots -/
def rQ (I J : zI) : Prop := (∀ a, a ≠ 74 → a ≠ 450 → a ≠ 451 → a ≠ 534 → a ≠ 535 → (a < 557 ∨ 641 < a) → J a = I a) ∧ ∀ k, k ≠ 0 → k ≠ 47 → J 74 k = I 74 k
theorem rQ_rfl : rQ I I := ⟨fun _ _ _ _ _ _ _ => rfl, fun _ _ _ => rfl⟩
theorem rQ_trans {J K : zI} (h : rQ I J) (h2 : rQ J K) : rQ I K := ⟨fun a q1 q2 q3 q4 q5 q6 => (h2.1 a q1 q2 q3 q4 q5 q6).trans (h.1 a q1 q2 q3 q4 q5 q6), fun k q1 q2 => (h2.2 k q1 q2).trans (h.2 k q1 q2)⟩
theorem rQ_rS {a : Nat} {J : zI} (ha : a = 534 ∨ a = 535) (h : rS a I J) : rQ I J := ⟨fun c q1 q2 q3 q4 q5 q6 => h c (by omega) (by omega) (by omega) (by omega) (by omega) (by omega), fun k _ _ => by rw [h 74 (by omega) (by decide) (by decide) (by decide) (by decide) (by decide)]⟩
theorem rQ_rF {J : zI} (h : rF I J) : rQ I J := ⟨fun c q1 q2 q3 q4 q5 q6 => h c (by omega) (by omega) (by omega) (by omega), fun k _ _ => by rw [h 74 (by decide) (by decide) (by decide) (by decide)]⟩
theorem rI_rQ {J : zI} {S : sT} (h : rI I S) (hf : rQ I J) : rI J S := by
  obtain ⟨h1, h2, h3, h4, h5, h6, h7, h8, h9, h10⟩ := h
  have e : ∀ a, a ≠ 74 → a ≠ 450 → a ≠ 451 → a ≠ 534 → a ≠ 535 → (a < 557 ∨ 641 < a) → J a = I a := hf.1
  have f : ∀ k, k ≠ 0 → k ≠ 47 → J 74 k = I 74 k := hf.2
  have hb := h3.1
  refine ⟨?_, by rw [f 3 (by decide) (by decide)]; exact h2, rB_of h3 (f 20 (by decide) (by decide)) (fun a ha => e a (by omega) (by omega) (by omega) (by omega) (by omega) (by omega)), rRow_of h4 (e 533 (by decide) (by decide) (by decide) (by decide) (by decide) (by decide)), ?_, ?_, ?_, by rw [f 37 (by decide) (by decide)]; exact h8, by rw [e 76 (by decide) (by decide) (by decide) (by decide) (by decide) (by decide)]; exact h9, by rw [e 76 (by decide) (by decide) (by decide) (by decide) (by decide) (by decide)]; exact h10⟩
  · unfold rTp at *
    rw [f 1 (by decide) (by decide), e 75 (by decide) (by decide) (by decide) (by decide) (by decide) (by decide)]; exact h1
  · refine ⟨by rw [f 35 (by decide) (by decide)]; exact h5.1, h5.2.1, fun i hi => ?_⟩
    have := h5.2.1
    rw [e (432 + 1 + i) (by omega) (by omega) (by omega) (by omega) (by omega) (by omega)]; exact h5.2.2 i hi
  · refine ⟨by rw [f 36 (by decide) (by decide)]; exact h6.1, h6.2.1, fun i hi => ?_⟩
    have := h6.2.1
    exact rRow_of (h6.2.2 i hi) (e _ (by omega) (by omega) (by omega) (by omega) (by omega) (by omega))
  · refine ⟨by rw [f 38 (by decide) (by decide)]; exact h7.1, h7.2.1, fun k hk => ?_⟩
    have := h7.2.1
    unfold kR
    rw [e (553 + 1 + k) (by omega) (by omega) (by omega) (by omega) (by omega) (by omega)]; exact h7.2.2 k hk
end ZRefO
