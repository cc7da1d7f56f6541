/-! ===== what can be asked of a board and a row ===== -/
section ZQuery
variable {I : zI} {g : zG}
def sJoin (b : zWo) (R : rwT) : Int32 := bitF (jnd R (bpc b) (bpn b)) (bN b)
def ovQ (b : zWo) (R : rwT) (p : Nat) : Bool := decide (0 < ovN b R p)
def sOver (b : zWo) (R : rwT) : Int32 := cntF (ovQ b R) 64
def sDone (b : zWo) (R : rwT) : Bool := decide (sJoin b R = nI 1 <<< (nI (bN b) &&& 31) - nI 1) && decide (sOver b R = 0)
def sUses (R : rwT) : Int32 := sumF (fun p => nI (usn R p)) 64
def sHis (R : rwT) : Int32 := sumF (fun p => R (384 + p)) 64
def sWal (R : rwT) : Int32 := sumF (fun p => R (448 + p)) 64
def sOvOf (b : zWo) (R : rwT) (n : Nat) : Int32 := cntF (fun p => tin R n p && ovQ b R p) 64
def stpM (b : zWo) (R : rwT) (n : Nat) : Nat → Option Nat → Nat
  | 0, _ => 0
  | _ + 1, none => 0
  | k + 1, some q => stpM b R n k (parM b R n q) + 1
def stM (b : zWo) (R : rwT) (n p : Nat) : Nat := stpM b R n 64 (parM b R n p)
def sDel (b : zWo) (R : rwT) (n : Nat) : Int32 := maxI (fun i => nI (stM b R n (bpn b n i))) (bpc b n)
def sDeep (b : zWo) (R : rwT) (n : Nat) : Int32 := maxI (fun p => nI (stM b R n p)) 64
def chM (b : zWo) (R : rwT) (n p : Nat) : Nat := cB (fun q => decide (parM b R n q = some p)) 64
def sLeaf (b : zWo) (R : rwT) (n : Nat) : Int32 := cntF (fun p => tin R n p && decide (chM b R n p = 0)) 64
def sFork (b : zWo) (R : rwT) (n : Nat) : Int32 := cntF (fun p => decide (2 ≤ chM b R n p)) 64
def latQ (b : zWo) (R : rwT) (n : Nat) : Bool := !(jnd R (bpc b) (bpn b) n) || decide (¬ sDel b R n ≤ blm b n)
def sLate (b : zWo) (R : rwT) : Int32 := bitF (latQ b R) (bN b)
def sNets (b : zWo) (R : rwT) (p : Nat) : Int32 := bitF (fun n => tin R n p) (bN b)
theorem cntF_congr {f f' : Nat → Bool} {n : Nat} (h : ∀ k, k < n → f k = f' k) : cntF f n = cntF f' n := lp_congr (fun k hk x => by rw [h k hk])
theorem sumF_congr {f f' : Nat → Int32} {n : Nat} (h : ∀ k, k < n → f k = f' k) : sumF f n = sumF f' n := lp_congr (fun k hk x => by rw [h k hk])
theorem maxI_congr {f f' : Nat → Int32} {n : Nat} (h : ∀ k, k < n → f k = f' k) : maxI f n = maxI f' n := lp_congr (fun k hk x => by rw [h k hk])
section W
variable {b : zWo} {R : rwT} {s : Nat} (hW : zWi I b) (hR : zRow I s R)
theorem q_join (hW : zWi I b) (hR : zRow I s R) : bitF (jnd (I (s + 1)) (bpc b) (bpn b)) (bN b) = sJoin b R := bitF_congr (fun n hn => jnd_R hW hR (by have := hW.1.2.2.2.2.1; omega))
theorem q_over (hW : zWi I b) (hR : zRow I s R) : cntF (ovB (I (s + 2)) (I 9)) 64 = sOver b R := cntF_congr (fun p hp => ovB_eq hW hR hp)
theorem q_done (hW : zWi I b) (hR : zRow I s R) : doneB (I (s + 1)) (I (s + 2)) (I 9) (bN b) (bpc b) (bpn b) = sDone b R := by unfold doneB sDone; rw [q_join hW hR, q_over hW hR]
theorem q_uses (hR : zRow I s R) : sumF (I (s + 2)) 64 = sUses R := sumF_congr (fun p hp => hR.2.1 p hp)
theorem q_his (hR : zRow I s R) : sumF (I (s + 3)) 64 = sHis R := sumF_congr (fun p hp => hR.2.2.1 p hp)
theorem q_wal (hR : zRow I s R) : sumF (I (s + 4)) 64 = sWal R := sumF_congr (fun p hp => hR.2.2.2.1 p hp)
theorem q_size (hR : zRow I s R) {n : Nat} (hn : n < 6) : cntF (tin (I (s + 1)) n) 64 = cntF (tin R n) 64 := cntF_congr (fun p hp => zRow_tin hR hn hp)
theorem q_ovOf (hW : zWi I b) (hR : zRow I s R) {n : Nat} (hn : n < 6) : cntF (fun p => tin (I (s + 1)) n p && ovB (I (s + 2)) (I 9) p) 64 = sOvOf b R n := cntF_congr (fun p hp => by rw [zRow_tin hR hn hp, ovB_eq hW hR hp]; rfl)
theorem parM_lt {n p q : Nat} (hb : bdOk b) (hp : p < 64) (h : parM b R n p = some q) : q < 64 := by
  unfold parM at h
  split at h
  · cases h
  · exact nbr_lt hb hp h
theorem q_stp (hw : wok R) (hW : zWi I b) (hR : zRow I s R) {n : Nat} (hn : n < 6) : ∀ {k : Nat} {o : Option Nat}, (∀ q, o = some q → q < 64) → stp (I (s + 1)) (I 11) n k o = stpM b R n k o
  | 0, o, _ => rfl
  | k + 1, none, _ => rfl
  | k + 1, some q, h => by
    have hq := h q rfl
    simp only [stp, stpM]
    rw [par_eq hw hW hR hn hq, q_stp hw hW hR hn (fun q' hq' => parM_lt hW.1 hq hq')]
theorem q_st (hw : wok R) (hW : zWi I b) (hR : zRow I s R) {n p : Nat} (hn : n < 6) (hp : p < 64) : stR (I (s + 1)) (I 11) n p = stM b R n p := by
  unfold stR stM
  rw [par_eq hw hW hR hn hp, q_stp hw hW hR hn (fun q hq => parM_lt hW.1 hp hq)]
theorem q_del (hw : wok R) (hW : zWi I b) (hR : zRow I s R) {n : Nat} (hn : n < 6) : maxI (fun i => nI (stR (I (s + 1)) (I 11) n (bpn b n i))) (bpc b n) = sDel b R n := maxI_congr (fun i hi => by rw [q_st hw hW hR hn (hW.1.2.2.2.2.2.2.1 n i hn hi).1])
theorem q_deep (hw : wok R) (hW : zWi I b) (hR : zRow I s R) {n : Nat} (hn : n < 6) : maxI (fun p => nI (stR (I (s + 1)) (I 11) n p)) 64 = sDeep b R n := maxI_congr (fun i hi => by rw [q_st hw hW hR hn hi])
theorem q_ch (hw : wok R) (hW : zWi I b) (hR : zRow I s R) {n : Nat} (hn : n < 6) : ∀ {k : Nat}, k ≤ 64 → ∀ p, chN (I (s + 1)) (I 11) n k p = nI (cB (fun q => decide (parM b R n q = some p)) k)
  | 0, _, p => rfl
  | k + 1, hk, p => by
    have ih := q_ch hw hW hR hn (k := k) (by omega)
    have e : chN (I (s + 1)) (I 11) n (k + 1) = match par (I (s + 1)) (I 11) n k with
      | none => chN (I (s + 1)) (I 11) n k
      | some q => upd (chN (I (s + 1)) (I 11) n k) q (chN (I (s + 1)) (I 11) n k q + 1) := rfl
    rw [e, par_eq hw hW hR hn (by omega)]
    simp only [cB]
    obtain ⟨o, ho⟩ : ∃ o, parM b R n k = o := ⟨_, rfl⟩
    simp only [ho]
    cases o with
    | none => simp only []; rw [ih p]; simp
    | some q =>
      simp only []
      by_cases z : p = q
      · rw [z, upd_at, ih q]; simp; exact nI_1 _
      · rw [upd_ne z, ih p]; simp [show ¬ q = p from fun y => z y.symm]
theorem q_leaf (hw : wok R) (hW : zWi I b) (hR : zRow I s R) {n : Nat} (hn : n < 6) : cntF (fun p => tin (I (s + 1)) n p && decide (chN (I (s + 1)) (I 11) n 64 p = 0)) 64 = sLeaf b R n := cntF_congr (fun p hp => by
  have hle : chM b R n p ≤ 64 := cB_le
  rw [zRow_tin hR hn hp, q_ch hw hW hR hn (Nat.le_refl _) p]
  congr 1
  exact decide_eq_decide.mpr ⟨fun h => by
    rcases Nat.eq_zero_or_pos (chM b R n p) with z | z
    · exact z
    · exact absurd h (nI_ne0 z (Nat.lt_of_le_of_lt hle (by decide))), fun h => by show nI (chM b R n p) = 0; rw [h]; rfl⟩)
theorem q_fork (hw : wok R) (hW : zWi I b) (hR : zRow I s R) {n : Nat} (hn : n < 6) : cntF (fun p => decide (¬ chN (I (s + 1)) (I 11) n 64 p < nI 2)) 64 = sFork b R n := cntF_congr (fun p hp => by
  have hle : chM b R n p ≤ 64 := cB_le
  rw [q_ch hw hW hR hn (Nat.le_refl _) p]
  exact decide_eq_decide.mpr ⟨fun h => Nat.le_of_not_lt (fun z => h (nI_lt z (by omega))), fun h => nI_nlt h (by show chM b R n p < 2 ^ 31; omega)⟩)
theorem q_late (hw : wok R) (hW : zWi I b) (hR : zRow I s R) : bitF (lateB (I (s + 1)) (I 11) (I 5) (bpc b) (bpn b)) (bN b) = sLate b R := bitF_congr (fun n hn => by
  have hN := hW.1.2.2.2.2.1
  unfold lateB latQ dly
  rw [jnd_R hW hR (by omega), q_del hw hW hR (by omega), hW.2.2.2.1 n (by omega)])
theorem q_nets (hW : zWi I b) (hR : zRow I s R) {p : Nat} (hp : p < 64) : bitF (fun n => tin (I (s + 1)) n p) (bN b) = sNets b R p := bitF_congr (fun n hn => by have := hW.1.2.2.2.2.1; rw [zRow_tin hR (by omega) hp])
theorem q_bok (hW : zWi I b) : bok (I 11) := by
  intro k hk
  have h := hW.2.2.2.2.2.2.1 (k / 4) (k % 4) (by omega) (by omega)
  rw [show k / 4 * 4 + k % 4 = k by omega] at h
  rw [h]
  cases e : nbr b (k / 4) (k % 4) with
  | none => exact Or.inl rfl
  | some q => exact Or.inr ⟨q, nbr_lt hW.1 (by omega) e, rfl⟩
theorem q_wok (h : okR b R) (hR : zRow I s R) : wok (I (s + 1)) := fun k hk => by rw [hR.1 k hk]; exact okR_wok h k hk
end W
/-- the whole: (fed, bytes, fault), board and law, row, book, works, images, (refused steps, no such calls, wrong calls) -/
abbrev sT : Type := (Nat × (Nat → Nat) × Int32) × zWo × rwT × List (Nat × Nat) × (Nat × (Nat → rwT)) × (Nat × (Nat → rwT) × (Nat → Nat) × (Nat → Nat → rwT)) × (Nat × Int32 × Int32)
/-- all rows that are held stand -/
def okS (S : sT) : Prop := gnOk S.2.1 ∧ okR S.2.1 S.2.2.1 ∧ (∀ i, i < S.2.2.2.2.1.1 → okR S.2.1 (S.2.2.2.2.1.2 i)) ∧ ∀ k, k < S.2.2.2.2.2.1.1 → okR S.2.1 (S.2.2.2.2.2.1.2.1 k) ∧ ∀ i, i < S.2.2.2.2.2.1.2.2.1 k → okR S.2.1 (S.2.2.2.2.2.1.2.2.2 k i)
def cI (I : zI) (g : zG) (S : sT) : Prop := tp I S.1.1 S.1.2.1 ∧ I 1 6 = S.1.2.2 ∧ zWi I S.2.1 ∧ zRow I 62 S.2.2.1 ∧ zBk I 29 S.2.2.2.1.length (bkP S.2.2.2.1) (bkW S.2.2.2.1) ∧ shI I g S.2.2.2.2.1.1 S.2.2.2.2.2.1.1 S.2.2.2.2.1.2 S.2.2.2.2.2.1.2.1 S.2.2.2.2.2.1.2.2.1 S.2.2.2.2.2.1.2.2.2 ∧ (I 0 15 = nI S.2.2.2.2.2.2.1 ∧ I 0 16 = S.2.2.2.2.2.2.2.1 ∧ I 0 17 = S.2.2.2.2.2.2.2.2)
/-- questions change the class's scratch alone -/
def fQ (I J : zI) : Prop := (∀ a, a ≠ 0 → a ≠ 22 → a ≠ 24 → a ≠ 42 → (a < 44 ∨ 56 < a) → (a < 68 ∨ 73 < a) → J a = I a) ∧ ∀ k, k ≠ 18 → J 0 k = I 0 k
theorem fQ_rfl : fQ I I := ⟨fun _ _ _ _ _ _ _ => rfl, fun _ _ => rfl⟩
theorem fQ_trans {J K : zI} (h : fQ I J) (h2 : fQ J K) : fQ I K := ⟨fun a q1 q2 q3 q4 q5 q6 => (h2.1 a q1 q2 q3 q4 q5 q6).trans (h.1 a q1 q2 q3 q4 q5 q6), fun k hk => (h2.2 k hk).trans (h.2 k hk)⟩
theorem fQ_fZ {J : zI} (h : fZ 68 I J) : fQ I J := ⟨fun a q1 q2 q3 q4 q5 q6 => h a q2 q3 q4 q5 q6, fun k _ => by rw [h 0 (by decide) (by decide) (by decide) (by decide) (by decide)]⟩
theorem fQ_fX {J : zI} (h : fX 68 I J) : fQ I J := fQ_fZ (fZ_fX h)
/-- a question about the state itself: the state's own rows stay -/
theorem fQ_fX62 {J : zI} {R : rwT} (h : fX 62 I J) (e : ∀ a, 62 ≤ a → a ≤ 67 → J a = I a) : fQ I J := ⟨fun a q1 q2 q3 q4 q5 q6 => by
  by_cases z : 62 ≤ a ∧ a ≤ 67
  · exact e a z.1 z.2
  · exact h a q2 q3 q4 (by omega) (by omega) (by omega) (by omega) (by omega) (by omega), fun k _ => by rw [h 0 (by decide) (by decide) (by decide) (by decide) (by decide) (by decide) (by decide) (by decide) (by decide)]⟩
theorem tp_of {J : zI} {fed : Nat} {bs : Nat → Nat} (h : tp I fed bs) (e1 : J 1 = I 1) (e2 : J 2 = I 2) : tp J fed bs := by
  unfold tp at *
  rw [e1, e2]; exact h
theorem zWi_of {J : zI} {b : zWo} (h : zWi I b) (e : ∀ a, a = 3 ∨ a = 5 ∨ a = 6 ∨ a = 7 ∨ a = 8 ∨ a = 9 ∨ a = 11 ∨ a = 21 ∨ a = 23 → J a = I a) : zWi J b := by
  unfold zWi zBd at *
  rw [e 3 (by decide), e (3 + 3) (by decide), e (3 + 4) (by decide), e 5 (by decide), e 9 (by decide), e 8 (by decide), e 11 (by decide), e 21 (by decide), e 23 (by decide)]
  exact h
theorem zBk_of {J : zI} {c kl : Nat} {kp kw : Nat → Nat} (h : zBk I c kl kp kw) (e : ∀ a, c ≤ a → a ≤ c + 2 → J a = I a) : zBk J c kl kp kw := by
  unfold zBk at *
  rw [e c (by omega) (by omega), e (c + 1) (by omega) (by omega), e (c + 2) (by omega) (by omega)]
  exact h
theorem cI_fQ {J : zI} {S : sT} (h : cI I g S) (hf : fQ I J) : cI J g S := by
  obtain ⟨h1, h2, h3, h4, h5, h6, h7⟩ := h
  have e : ∀ a, a ≠ 0 → a ≠ 22 → a ≠ 24 → (a < 42 ∨ 56 < a) → (a < 68 ∨ 73 < a) → J a = I a := fun a q1 q2 q3 q4 q5 => hf.1 a q1 q2 q3 (by omega) (by omega) q5
  exact ⟨tp_of h1 (e 1 (by decide) (by decide) (by decide) (by decide) (by decide)) (e 2 (by decide) (by decide) (by decide) (by decide) (by decide)), by rw [e 1 (by decide) (by decide) (by decide) (by decide) (by decide)]; exact h2, zWi_of h3 (fun a ha => e a (by omega) (by omega) (by omega) (by omega) (by omega)), zRow_of h4 (fun a q1 q2 => e a (by omega) (by omega) (by omega) (by omega) (by omega)), zBk_of h5 (fun a q1 q2 => e a (by omega) (by omega) (by omega) (by omega) (by omega)), shI_of h6 (fun q hq => e q (by omega) (by omega) (by omega) (by omega) (by omega)), by rw [hf.2 15 (by decide), hf.2 16 (by decide), hf.2 17 (by decide)]; exact h7⟩
/-- what lies between class and reference, and the reference -/
def fC (I J : zI) : Prop := ∀ a, 74 ≤ a → a ≤ 642 → J a = I a
theorem fC_fQ {J : zI} (h : fQ I J) : fC I J := fun a h1 h2 => h.1 a (by omega) (by omega) (by omega) (by omega) (by omega) (by omega)
end ZQuery
