/-! ===== costs and distances as the class finds them ===== -/
section ZBridge2
variable {l : Launch} {Xi : zXi} {d : Nat} {I : zI} {g : zG}
theorem posI {a b : Nat} (ha : a < 2 ^ 30) (hb : b < 2 ^ 30) : (if nI a - nI b ≤ 0 then 0 else nI a - nI b) = nI (a - b) := by
  have h := pk_sub_toInt ha hb
  by_cases e : a ≤ b
  · rw [if_pos (Int32.le_iff_toInt_le.mpr (by rw [h]; show (a : Int) - b ≤ 0; omega)), Nat.sub_eq_zero_of_le e]
    rfl
  · rw [if_neg (fun z => by have := Int32.le_iff_toInt_le.mp z; rw [h] at this; have h0 : (0 : Int32).toInt = 0 := by decide
                            rw [h0] at this; omega), pk_sub (by omega)]
theorem posB {a b : Nat} (ha : a < 2 ^ 30) (hb : b < 2 ^ 30) : (0 < nI a - nI b) ↔ b < a := by
  have h := pk_sub_toInt ha hb
  rw [Int32.lt_iff_toInt_lt, h, show (0 : Int32).toInt = 0 by decide]
  omega
theorem ovr_eq {b : zWo} {R : Nat → Int32} {s p : Nat} (hW : zWi I b) (hR : zRow I s R) (hp : p < 64) : ovr (I (s + 2)) (I 9) p = nI (ovN b R p) := by
  have h1 := hR.2.1 p hp
  have h2 := hW.2.2.2.2.1 p hp
  have h3 := usn_le (R := R) (p := p)
  have h4 := (hW.1.2.2.2.2.2.2.2.2.1 p hp).2
  unfold ovr
  rw [h1, h2, posI (by omega) (by omega)]
  rfl
theorem ovB_eq {b : zWo} {R : Nat → Int32} {s p : Nat} (hW : zWi I b) (hR : zRow I s R) (hp : p < 64) : ovB (I (s + 2)) (I 9) p = decide (0 < ovN b R p) := by
  have h1 := hR.2.1 p hp
  have h2 := hW.2.2.2.2.1 p hp
  have h3 := usn_le (R := R) (p := p)
  have h4 := (hW.1.2.2.2.2.2.2.2.2.1 p hp).2
  unfold ovB
  rw [h1, h2]
  have := posB (a := usn R p) (b := bwd b p) (by omega) (by omega)
  by_cases e : bwd b p < usn R p
  · rw [decide_eq_true (this.mpr e)]; exact (decide_eq_true (show 0 < ovN b R p by unfold ovN; omega)).symm
  · have h5 : ¬ 0 < nI (usn R p) - nI (bwd b p) := fun z => e (this.mp z)
    rw [decide_eq_false h5]; exact (decide_eq_false (show ¬ 0 < ovN b R p by unfold ovN; omega)).symm
theorem nm_eq {b : zWo} {R : Nat → Int32} {s n p : Nat} (hW : zWi I b) (hR : zRow I s R) (hn : n < 6) (hp : p < 64) : ∀ k, k < 8 → nmF I s n p (hasB I s n p) k = nmM b R n p k := by
  obtain ⟨h1, h2, h3, h4, h5, h6⟩ := id hR
  obtain ⟨w1, w2, w3, w4, w5, w6, -⟩ := id hW
  have hu := usn_oth (R := R) (p := p) hn
  have hol := oth_le (R := R) (n := n) (p := p)
  have hwd := (w1.2.2.2.2.2.2.2.2.1 p hp).2
  have ho : I (s + 2) p - (if hasB I s n p then 1 else 0) + nI 1 - I 9 p = nI (oth R n p + 1) - nI (bwd b p) := by
    rw [zRow_has hR hn hp, h2 p hp, w5 p hp, hu]
    congr 1
    by_cases e : tin R n p = true
    · rw [if_pos e, if_pos e]
      have := pk_sub (a := oth R n p + 1) (b := 1) (Nat.le_add_left 1 _)
      rw [show (1 : Int32) = nI 1 from rfl, this, nI_add]; rfl
    · rw [if_neg e, if_neg e]
      rw [show nI (oth R n p + 0) - (0 : Int32) = nI (oth R n p) by simp, nI_add]
  intro k hk
  have hk8 : k = 0 ∨ k = 1 ∨ k = 2 ∨ k = 3 ∨ k = 4 ∨ k = 5 ∨ k = 6 ∨ k = 7 := by omega
  unfold nmF
  simp only [ho]
  rw [posI (by omega) (by omega)]
  rcases hk8 with rfl | rfl | rfl | rfl | rfl | rfl | rfl | rfl <;> simp only [upd, Nat.reduceEqDiff, if_true, if_false, nmM]
  · exact h3 p hp
  · exact h5 n hn
  · exact h6
  · exact w5 p hp
  · rw [w6 p hp, bc_oth hn w1.2.2.2.2.1]
    rfl
theorem law_congr {cs cs' : Nat → Int32} {len : Nat} (h : lawOk cs len) (e : ∀ i, i < len → cs' i = cs i) : lawOk cs' len := by
  obtain ⟨h1, dp, h2, h3, h4⟩ := h
  exact ⟨h1, dp, h2, h3, fun i hi => by rw [e i hi]; exact h4 i hi⟩
theorem evalL_cs {nm cs cs' wt : Nat → Int32} {len : Nat} (e : ∀ i, i < len → cs' i = cs i) : evalL nm cs' wt len = evalL nm cs wt len := lp_congr (fun k hk x => by rw [e k hk])
theorem cst_eq {b : zWo} {R : Nat → Int32} {s n p : Nat} (hW : zWi I b) (hR : zRow I s R) (hn : n < 6) (hp : p < 64) : cstI I s n p (bln b) = nI (cstM b R n p) := by
  rw [← cst_in.2.2]
  unfold cstI lawV
  rw [evalL_cs (cs := bcs b) hW.2.2.2.2.2.2.2.2.1]
  rw [evalL_same hW.1.2.2.2.2.2.2.2.2.2 (nm_eq hW hR hn hp)]
theorem un_o {o : Option Nat} (h : ∀ q, o = some q → q < 64) : unI (oI o) = o := by
  cases o with
  | none => rfl
  | some q =>
    unfold unI oI
    have := h q rfl
    rw [if_neg (nI_ne1 (by omega)), nI_clamp (by omega)]
theorem un_nbr {b : zWo} (hW : zWi I b) {p v : Nat} (hp : p < 64) (hv : v < 4) : unI (I 11 (p * 4 + v)) = nbr b p v := by
  rw [hW.2.2.2.2.2.2.1 p v hp hv]
  exact un_o (fun q h => nbr_lt hW.1 hp h)
theorem bok_W {b : zWo} (hW : zWi I b) : bok (I 11) := by
  intro k hk
  rw [show k = k / 4 * 4 + k % 4 by omega, hW.2.2.2.2.2.2.1 (k / 4) (k % 4) (by omega) (by omega)]
  cases e : nbr b (k / 4) (k % 4) with
  | none => exact Or.inl rfl
  | some q => exact Or.inr ⟨q, nbr_lt hW.1 (by omega) e, rfl⟩
theorem FPd_congr {T wl T' wl' : Nat → Bool} {ad ad' : Nat → Nat → Prop} {c : Nat → Nat} {D : Nat → Option Nat} (h : FPd T wl ad c D) (hT : ∀ p, p < 64 → T' p = T p) (hw : ∀ p, p < 64 → wl' p = wl p) (ha : ∀ e p, e < 64 → p < 64 → (ad' e p ↔ ad e p)) : FPd T' wl' ad' c D := by
  intro p hp
  obtain ⟨h1, h2, h3⟩ := h p hp
  rw [hT p hp, hw p hp]
  refine ⟨h1, h2, fun q1 q2 => ⟨fun e a he had => (h3 q1 q2).1 e a he ((ha e p he hp).mp had), fun x hx => ?_⟩⟩
  obtain ⟨e, a, he, had, k⟩ := (h3 q1 q2).2 x hx
  exact ⟨e, a, he, (ha e p he hp).mpr had, k⟩
theorem wl_eq {R : Nat → Int32} {s p : Nat} (hR : zRow I s R) (hp : p < 64) : wlB (I (s + 4)) p = wlR R p := by
  unfold wlB wlR
  rw [hR.2.2.2.1 p hp]
theorem ad_eq {b : zWo} (hW : zWi I b) {e p : Nat} (he : e < 64) : adB (I 11) e p ↔ adM b e p :=
  ⟨fun ⟨v, hv, h⟩ => ⟨v, hv, by rw [← un_nbr hW he hv]; exact h⟩, fun ⟨v, hv, h⟩ => ⟨v, hv, by rw [un_nbr hW he hv]; exact h⟩⟩
theorem k_spread (hl : l.stackTraces = false) (hd : 4 ≤ d) (hs : zSt g) {s n : Nat} {b : zWo} {R : Nat → Int32} {whole : Bool} (hst : zK g s 8 zLt_State) (hsN : 60 < s) (hn : n < 6) (hW : zWi I b) (hR : zRow I s R) (hpr : ∀ q, q < 64 → I 47 q = 0 ∨ I 47 q = nI (cstM b R n q)) : zEv l Xi mX6_spread d [.ref 43, .ref s, .int (nI n), .int (if whole then 1 else 0)] I g (fun J => spQ I J s n (cstM b R n) (DM b R n) whole) := by
  refine k_X6_spread (len := bln b) hl hd hs hst hsN hn hW.2.2.2.2.2.2.2.1 (law_congr hW.1.2.2.2.2.2.2.2.2.2 hW.2.2.2.2.2.2.2.2.1) (bok_W hW) (fun q hq => ⟨cst_in.1, cst_in.2.1, cst_eq hW hR hn hq⟩) (FPd_congr DM_FP (fun p hp => zRow_tin hR hn hp) (fun p hp => wl_eq hR hp) (fun e p he hp => ad_eq hW he)) hpr
end ZBridge2
