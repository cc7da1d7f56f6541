/-! ===== a board's text: what it tells (rb), clause by clause ===== -/
section ZParse
variable {l : Launch} {Xi : zXi} {d : Nat} {I : zI} {g : zG}
def un {α : Type} (f : Nat → α) (k : Nat) (x : α) : Nat → α := fun j => if j = k then x else f j
theorem un_at {α : Type} {f : Nat → α} {k : Nat} {x : α} : un f k x k = x := if_pos rfl
theorem un_ne {α : Type} {f : Nat → α} {k j : Nat} {x : α} (h : j ≠ k) : un f k x j = f j := if_neg h
abbrev PR (α : Type) : Type := (Nat × Nat) ⊕ (α × Nat)
def pbind {α β : Type} (r : PR α) (f : α → Nat → PR β) : PR β := match r with
  | .inl e => .inl e
  | .inr q => f q.1 q.2
def toE {α : Type} : PR α → Option (Nat × Nat)
  | .inl e => some e
  | .inr _ => none
def pNum (bs : Nat → Nat) (L lo hi A : Nat) : PR Nat := match nuX bs L A lo hi with
  | some q => .inl q
  | none => .inr (nuV bs L A, nuE bs L A)
def pSign (bs : Nat → Nat) (L c A : Nat) : PR Unit := if hitB bs L (sk bs L A) c then .inr ((), sk bs L A + 1) else .inl (1, sk bs L A)
def pPlace (bs : Nat → Nat) (L A : Nat) : PR Nat := pbind (pNum bs L 0 8 A) fun x A => pbind (pNum bs L 0 8 A) fun y A => .inr (y * 8 + x, A)
/-- columns, rows, nets, gain; crits, limits, how many pins, pins, widths, walls -/
abbrev zRb : Type := (Nat × Nat × Nat × Nat) × (Nat → Nat) × (Nat → Nat) × (Nat → Nat) × (Nat → Nat → Nat) × (Nat → Nat) × (Nat → Bool)
def rC (r : zRb) : Nat := r.1.1
def rR (r : zRb) : Nat := r.1.2.1
def rN (r : zRb) : Nat := r.1.2.2.1
def rG (r : zRb) : Nat := r.1.2.2.2
def rcr (r : zRb) : Nat → Nat := r.2.1
def rlm (r : zRb) : Nat → Nat := r.2.2.1
def rpc (r : zRb) : Nat → Nat := r.2.2.2.1
def rpn (r : zRb) : Nat → Nat → Nat := r.2.2.2.2.1
def rwd (r : zRb) : Nat → Nat := r.2.2.2.2.2.1
def rwl (r : zRb) : Nat → Bool := r.2.2.2.2.2.2
def rb0 : zRb := ((4, 4, 0, 1), fun _ => 0, fun _ => 0, fun _ => 0, fun _ _ => 0, fun _ => 1, fun _ => false)
def rbOk (r : zRb) : Prop := (2 ≤ rC r ∧ rC r ≤ 8 ∧ 2 ≤ rR r ∧ rR r ≤ 8 ∧ rN r ≤ 6 ∧ rG r ≤ 9) ∧ (∀ n, n < 6 → rpc r n ≤ 4 ∧ (rN r ≤ n → rpc r n = 0)) ∧ (∀ n i, n < 6 → i < rpc r n → rpn r n i < 64) ∧ (∀ p, p < 64 → 1 ≤ rwd r p ∧ rwd r p ≤ 3) ∧ ∀ n, n < rN r → rcr r n ≤ 9 ∧ rlm r n ≤ 60
theorem rb0_ok : rbOk rb0 := ⟨by decide, fun n _ => ⟨Nat.zero_le _, fun _ => rfl⟩, fun n i _ h => absurd h (Nat.not_lt_zero _), fun p _ => ⟨Nat.le_refl _, show 1 ≤ 3 by decide⟩, fun n h => absurd h (Nat.not_lt_zero _)⟩
/-- what a clause is: 0 size, 1 wall, 2 wide, 3 net, 4 pin, 5 gain, 6 nothing -/
def kdC (bs : Nat → Nat) (a w : Nat) : Nat := if wdB bs a w 0 then 0 else if wdB bs a w 1 then 1 else if wdB bs a w 2 then 2 else if wdB bs a w 3 then 3 else if wdB bs a w 4 then 4 else if wdB bs a w 5 then 5 else 6
def pBody (bs : Nat → Nat) (L k : Nat) (r : zRb) (A : Nat) : PR zRb :=
  if k = 0 then pbind (pNum bs L 2 9 A) fun x A => pbind (pNum bs L 2 9 A) fun y A => .inr (((x, y, rN r, rG r), r.2), A)
  else if k = 1 then pbind (pPlace bs L A) fun p A => .inr ((r.1, rcr r, rlm r, rpc r, rpn r, rwd r, un (rwl r) p true), A)
  else if k = 2 then pbind (pPlace bs L A) fun p A => pbind (pNum bs L 1 4 A) fun v A => .inr ((r.1, rcr r, rlm r, rpc r, rpn r, un (rwd r) p v, rwl r), A)
  else if k = 3 then pbind (pNum bs L 0 10 A) fun c A => pbind (pNum bs L 0 61 A) fun m A => .inr (((rC r, rR r, rN r + 1, rG r), un (rcr r) (rN r) c, un (rlm r) (rN r) m, rpc r, rpn r, rwd r, rwl r), A)
  else if k = 4 then pbind (pNum bs L 0 (rN r) A) fun n A' => if 4 ≤ rpc r n then .inl (3, sk bs L A) else pbind (pPlace bs L A') fun p A => .inr ((r.1, rcr r, rlm r, un (rpc r) n (rpc r n + 1), un (rpn r) n (un (rpn r n) (rpc r n) p), rwd r, rwl r), A)
  else pbind (pNum bs L 0 10 A) fun v A => .inr (((rC r, rR r, rN r, v), r.2), A)
def pClause (bs : Nat → Nat) (L cl : Nat) (r : zRb) (A : Nat) : PR zRb :=
  let k := kdC bs (sk bs L A) (woE bs L A)
  if k = 6 then .inl (1, sk bs L A) else if 60 ≤ cl ∨ (k = 3 ∧ 6 ≤ rN r) then .inl (3, sk bs L A)
  else pbind (pBody bs L k r (woE bs L A)) fun r A => pbind (pSign bs L 59 A) fun _ A => .inr (r, A)
def pBoard (bs : Nat → Nat) (L : Nat) : Nat → Nat → zRb → Nat → PR zRb
  | 0, _, r, A => .inr (r, A)
  | k + 1, cl, r, A => if L ≤ sk bs L A then .inr (r, sk bs L A) else pbind (pClause bs L cl r A) fun r A => pBoard bs L k (cl + 1) r A
/-- what the spare board (12) holds -/
def cRb (I : zI) (b : Nat) (r : zRb) : Prop := (I b 0 = nI (rC r) ∧ I b 1 = nI (rR r) ∧ I b 2 = nI (rN r) ∧ I b 3 = nI (rG r)) ∧ (∀ n, n < rN r → I (b + 1) n = nI (rcr r n) ∧ I (b + 2) n = nI (rlm r n)) ∧ (∀ n, n < 6 → I (b + 3) n = nI (rpc r n)) ∧ (∀ n i, n < 6 → i < rpc r n → I (b + 4) (n * 4 + i) = nI (rpn r n i)) ∧ (∀ p, p < 64 → I (b + 6) p = nI (rwd r p)) ∧ (∀ p, p < 64 → I (b + 7) p = if rwl r p then 1 else 0) ∧ ∀ p, p < 64 → I (b + 5) p = 0
def fB (b : Nat) (I J : zI) : Prop := ∀ a, a ≠ 1 → (a < b ∨ b + 8 < a) → J a = I a
theorem fB_rfl {b : Nat} : fB b I I := fun _ _ _ => rfl
theorem fB_trans {b : Nat} {J K : zI} (h : fB b I J) (h2 : fB b J K) : fB b I K := fun a p q => (h2 a p q).trans (h a p q)
theorem fB_fT {b : Nat} {J : zI} (h : fT I J) : fB b I J := fun a p _ => h a p
theorem fB_zup {b : Nat} {J : zI} {a k : Nat} {x : Int32} (h : fB b I J) (ha : b ≤ a ∧ a ≤ b + 8) : fB b I (zup J a k x) := fun q p r => (zup_row (by omega)).trans (h q p r)
theorem cRb_fT {b : Nat} {J : zI} {r : zRb} (h : cRb I b r) (hb : 2 < b) (hT : fT I J) : cRb J b r := by
  unfold cRb at *
  rw [hT b (by omega), hT (b + 1) (by omega), hT (b + 2) (by omega), hT (b + 3) (by omega), hT (b + 4) (by omega), hT (b + 5) (by omega), hT (b + 6) (by omega), hT (b + 7) (by omega)]
  exact h
theorem tX_fB {b : Nat} {J : zI} {a k : Nat} {x : Int32} {bs : Nat → Nat} {L A F : Nat} {e : Option (Nat × Nat)} (h : tX J bs L A F e) (ha : 2 < a) : tX (zup J a k x) bs L A F e := tX_of h (zup_row (by omega)) (zup_row (by omega))
def pOk {α : Type} (J : zI) (bs : Nat → Nat) (L A F : Nat) (r : PR α) (P : α → Prop) : Prop := tX J bs L A F (toE r) ∧ ∀ x a, r = .inr (x, a) → A = a ∧ P x
theorem wd_ex {bs : Nat → Nat} {a w i j : Nat} (hi : i < 20) (hj : j < 20) (h1 : wdB bs a w i = true) (h2 : wdB bs a w j = true) : i = j := by
  have hd : ∀ i, i < 20 → ∀ j, j < 20 → zbyt.getD i [] = zbyt.getD j [] → i = j := by decide +kernel
  refine hd i hi j hj ?_
  unfold wdB at h1 h2
  rw [Bool.and_eq_true] at h1 h2
  have e1 := of_decide_eq_true h1.1
  have e2 := of_decide_eq_true h2.1
  have a1 := allB_iff.mp h1.2
  have a2 := allB_iff.mp h2.2
  apply List.ext_getElem (by omega)
  intro k k1 k2
  have b1 := of_decide_eq_true (a1 k k1)
  have b2 := of_decide_eq_true (a2 k k2)
  rw [List.getD_eq_getElem?_getD, List.getElem?_eq_getElem k1] at b1
  rw [List.getD_eq_getElem?_getD, List.getElem?_eq_getElem k2] at b2
  exact b1.symm.trans b2
theorem wd_no {bs : Nat → Nat} {a w i j : Nat} (hi : i < 20) (hj : j < 20) (h1 : wdB bs a w i = true) (hij : i ≠ j) : wdB bs a w j = false := by
  cases e : wdB bs a w j with
  | false => rfl
  | true => exact absurd (wd_ex hi hj h1 e) hij
theorem pbind_assoc {α β γ : Type} {r : PR α} {f : α → Nat → PR β} {h : β → Nat → PR γ} : pbind (pbind r f) h = pbind r (fun x A => pbind (f x A) h) := by cases r <;> rfl
theorem pbind_inr {α β : Type} {x : α} {A : Nat} {f : α → Nat → PR β} : pbind (.inr (x, A)) f = f x A := rfl
theorem pbind_inl {α β : Type} {q : Nat × Nat} {f : α → Nat → PR β} : pbind (.inl q) f = .inl q := rfl
theorem pOk_0 {bs : Nat → Nat} {L A F : Nat} (h : tX I bs L A F none) : pOk I bs L A F (.inr ((), A)) (fun _ => True) := ⟨h, fun x a z => by cases z; exact ⟨rfl, trivial⟩⟩
theorem pOk_imp {α : Type} {bs : Nat → Nat} {L A F : Nat} {r : PR α} {P Q : α → Prop} (h : pOk I bs L A F r P) (hq : ∀ x, P x → Q x) : pOk I bs L A F r Q := ⟨h.1, fun x a z => ⟨(h.2 x a z).1, hq x (h.2 x a z).2⟩⟩
theorem pOk_of {α : Type} {J : zI} {bs : Nat → Nat} {L A F : Nat} {r : PR α} {P : α → Prop} (h : pOk I bs L A F r P) (e1 : J 1 = I 1) (e2 : J 2 = I 2) : pOk J bs L A F r P := ⟨tX_of h.1 e1 e2, h.2⟩
theorem pOk_zup {α : Type} {bs : Nat → Nat} {L A F a k : Nat} {x : Int32} {r : PR α} {P : α → Prop} (h : pOk I bs L A F r P) (ha : 2 < a) : pOk (zup I a k x) bs L A F r P := pOk_of h (zup_row (by omega)) (zup_row (by omega))
theorem pOk_map {α β : Type} {bs : Nat → Nat} {L A F : Nat} {r : PR α} {r' : PR β} {P : α → Prop} {Q : β → Prop} (f : α → β) (h : pOk I bs L A F r P) (e : r' = pbind r fun x A => .inr (f x, A)) (hq : ∀ x, P x → Q (f x)) : pOk I bs L A F r' Q := by
  subst e
  cases r with
  | inl q => exact ⟨h.1, fun x a z => by cases z⟩
  | inr q => exact ⟨h.1, fun x a z => by cases z; exact ⟨(h.2 q.1 q.2 rfl).1, hq _ (h.2 q.1 q.2 rfl).2⟩⟩
theorem k_numP (hl : l.stackTraces = false) (hd : 2 ≤ d) (hs : zSt g) {α : Type} {bs : Nat → Nat} {L A F lo hi : Nat} {r : PR α} {P : α → Prop} {x y : Int32} (h : pOk I bs L A F r P) (hlo : lo ≤ 1000) (hhi : hi ≤ 1000) (hx : x = nI lo) (hy : y = nI hi - 1) : zEi l Xi mX10_number d [.ref 1, .int x, .int y] I g (fun x J => ∃ c, x = nI c ∧ c ≤ 100009 ∧ fT I J ∧ pOk J bs L (nuE bs L A) (sk bs L A) (pbind r fun x A => pbind (pNum bs L lo hi A) fun y A => .inr ((x, y), A)) (fun q => P q.1 ∧ q.2 = c ∧ lo ≤ c ∧ c < hi)) := by
  refine zC_imp (k_number hl hd hs h.1 hlo hhi hx hy) (fun r' h' hp => ?_)
  obtain ⟨x, J, h1, h2, c, h3, h4, h5, h6, h7⟩ := hp
  refine ⟨x, J, h1, h2, c, h3, h4, h6, ?_⟩
  cases r with
  | inl q => exact ⟨h7, fun x a z => by cases z⟩
  | inr q =>
    obtain ⟨a1, a2⟩ := h.2 q.1 q.2 rfl
    subst a1
    simp only [toE, mg] at h7
    simp only [pbind]
    unfold pNum
    cases e : nuX bs L q.2 lo hi with
    | some w => rw [e] at h7; exact ⟨h7, fun x a z => by cases z⟩
    | none =>
      rw [e] at h7
      obtain ⟨b1, b2, b3⟩ := h5 e
      exact ⟨h7, fun x a z => by cases z; exact ⟨rfl, a2, b1.symm, b2, b3⟩⟩
theorem k_needP (hl : l.stackTraces = false) (hd : 2 ≤ d) (hs : zSt g) {α : Type} {bs : Nat → Nat} {L A F c : Nat} {r : PR α} {P : α → Prop} (h : pOk I bs L A F r P) (hc : c < 256) : zEv l Xi mX10_need d [.ref 1, .int (nI c)] I g (fun J => fT I J ∧ ∃ A' F', pOk J bs L A' F' (pbind r fun x A => pbind (pSign bs L c A) fun _ A => .inr (x, A)) P) := by
  refine zC_imp (k_need hl hd hs h.1 hc) (fun r' h' hp => ?_)
  obtain ⟨h1, J, h2, h3, h4⟩ := hp
  refine ⟨h1, J, h2, h3, (if hitB bs L (sk bs L A) c then sk bs L A + 1 else sk bs L A), sk bs L A, ?_⟩
  cases r with
  | inl q =>
    refine ⟨?_, fun x a z => by cases z⟩
    cases e : hitB bs L (sk bs L A) c <;> (rw [e] at h4; exact h4)
  | inr q =>
    obtain ⟨a1, a2⟩ := h.2 q.1 q.2 rfl
    subst a1
    simp only [pbind]
    unfold pSign
    cases e : hitB bs L (sk bs L q.2) c with
    | true =>
      rw [e] at h4
      exact ⟨h4, fun x a z => by cases z; exact ⟨rfl, a2⟩⟩
    | false =>
      rw [e] at h4
      exact ⟨h4, fun x a z => by cases z⟩
theorem k_failP (hl : l.stackTraces = false) (hd : 1 ≤ d) (hs : zSt g) {α β : Type} {bs : Nat → Nat} {L A F k w : Nat} {r : PR α} {P : α → Prop} {Q : β → Prop} {x : Int32} (h : pOk I bs L A F r P) (hk : k ≤ 3) (hk1 : 1 ≤ k) (hx : x = nI w) : zEv l Xi mX10_fail d [.ref 1, .int (nI k), .int x] I g (fun J => fT I J ∧ pOk J bs L A F (pbind r fun _ _ => (.inl (k, w) : PR β)) Q) := by
  refine zC_imp (k_fail hl hd hs h.1 hk hk1 hx) (fun r' h' hp => ?_)
  obtain ⟨h1, J, h2, h3, h4⟩ := hp
  refine ⟨h1, J, h2, h3, ?_⟩
  cases r with
  | inl q => exact ⟨h4, fun x a z => by cases z⟩
  | inr q => exact ⟨h4, fun x a z => by cases z⟩
theorem k_failedP (hl : l.stackTraces = false) (hd : 1 ≤ d) (hs : zSt g) {α : Type} {bs : Nat → Nat} {L A F : Nat} {r : PR α} {P : α → Prop} (h : pOk I bs L A F r P) : zD l Xi mX10_failed d [.ref 1] I g (some (.int (if (toE r).isSome then 1 else 0))) I := k_failed hl hd hs h.1
theorem toE_ok {α : Type} {bs : Nat → Nat} {L A F : Nat} {r : PR α} {P : α → Prop} (h : pOk I bs L A F r P) (e : (toE r).isSome = false) : ∃ x, r = .inr (x, A) ∧ P x := by
  cases r with
  | inl q => cases e
  | inr q => exact ⟨q.1, by rw [(h.2 q.1 q.2 rfl).1], (h.2 q.1 q.2 rfl).2⟩
theorem toE_no {α : Type} {r : PR α} (e : (toE r).isSome = true) : ∃ q, r = .inl q := by
  cases r with
  | inl q => exact ⟨q, rfl⟩
  | inr q => cases e
theorem k_readPlace (hl : l.stackTraces = false) (hd : 3 ≤ d) (hs : zSt g) {α : Type} {bs : Nat → Nat} {L A F : Nat} {r : PR α} {P : α → Prop} (h : pOk I bs L A F r P) : zEi l Xi mX0_readPlace d [.ref 12, .ref 1] I g (fun x J => fT I J ∧ ∃ A' F', pOk J bs L A' F' (pbind r fun x A => pbind (pPlace bs L A) fun y A => .inr ((x, y), A)) (fun q => P q.1 ∧ x = nI q.2 ∧ q.2 < 64)) := by
  refine zC_of hl rfl rfl rfl (Nat.le_of_ble_eq_true rfl) (zav_r (zSt_ob hs 12 0 rfl).1 (zav_r (zSt_ob hs 1 10 rfl).1 zav_0)) ?_
  refine zJ_aload_n dX0_readPlace_0 rfl ?_
  refine zJ_iconst (v := nI 0) dX0_readPlace_1 rfl ?_
  refine zJ_bipush (v := nI 7) dX0_readPlace_2 rfl ?_
  refine zP_ecallVi [_, _] _ lv_X0_105 (k_numP (lo := 0) (hi := 8) (d := d - 1) hl (by omega) hs h (by omega) (by omega) rfl (nI_pred 7).symm) (zSt_ob hs 1 10 rfl) rfl (by omega) (Nat.le_of_ble_eq_true rfl) rfl dX0_readPlace_4 (fun x1 J1 hx1 => ?_)
  obtain ⟨c1, rfl, hc1, hf1, h1⟩ := hx1
  refine zJ_istore_m 2 dX0_readPlace_7 rfl (Nat.le_of_ble_eq_true rfl) (by decide) ?_
  refine zJ_aload_n dX0_readPlace_8 rfl ?_
  refine zJ_iconst (v := nI 0) dX0_readPlace_9 rfl ?_
  refine zJ_bipush (v := nI 7) dX0_readPlace_10 rfl ?_
  refine zP_ecallVi [_, _] _ lv_X0_105 (k_numP (lo := 0) (hi := 8) (d := d - 1) hl (by omega) hs h1 (by omega) (by omega) rfl (nI_pred 7).symm) (zSt_ob hs 1 10 rfl) rfl (by omega) (Nat.le_of_ble_eq_true rfl) rfl dX0_readPlace_12 (fun x2 J2 hx2 => ?_)
  obtain ⟨c2, rfl, hc2, hf2, h2⟩ := hx2
  refine zJ_istore_m 3 dX0_readPlace_15 rfl (Nat.le_of_ble_eq_true rfl) (by decide) ?_
  refine zJ_iload_n dX0_readPlace_16 rfl ?_
  refine zJ_bipush (v := nI 8) dX0_readPlace_17 rfl ?_
  refine zJ_imul dX0_readPlace_19 ?_
  refine zJ_iload_n dX0_readPlace_20 rfl ?_
  refine zJ_iadd dX0_readPlace_21 ?_
  refine zJ_iret rfl dX0_readPlace_22 ?_
  refine ⟨_, J2, rfl, rfl, fT_trans hf1 hf2, nuE bs L (nuE bs L A), sk bs L (nuE bs L A), pOk_map (fun q => (q.1.1, q.2 * 8 + q.1.2)) h2 ?_ (fun q hq => ?_)⟩
  · simp only [pPlace, pbind_assoc, pbind_inr]
  · obtain ⟨⟨a1, a2, a3, a4⟩, a5, a6, a7⟩ := hq
    refine ⟨a1, ?_, ?_⟩
    · show _ = nI (q.2 * 8 + q.1.2)
      rw [pk_mul, nI_add, a2, a5]
    · show q.2 * 8 + q.1.2 < 64
      omega
end ZParse
