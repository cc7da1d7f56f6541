section ZMO
variable {l : Launch} {Xi : zXi} {M : zM} {d kc ks pc : Nat} {Ls : List (Option Value)} {S : List Value} {h : zH} {post : zR → zH → Prop}
theorem zJ_iinc1 {i k : Nat} (hd : decode M.2.2.1 pc = .ok (.iinc i 1, 3)) (hx : Ls[i]? = some (some (.int (nI k)))) (hL : i < M.2.2.2.1) (kk : zJ l Xi M d kc ks (pc + 3) (Ls.set i (some (.int (nI (k + 1))))) S h post) : zJ l Xi M d kc ks pc Ls S h post := zJ_iinc (v := nI (k + 1)) hd hx hL (nI_1 k) kk
theorem zJ_istore_m (j : Nat) {i : Fin 4} {x : Int32} (hd : decode M.2.2.1 pc = .ok (.istore_n i, 1)) (hj : (i : Nat) = j) (hi : j < Ls.length) (hL : j < M.2.2.2.1) (k : zJ l Xi M d kc ks (pc + 1) (Ls.set j (some (.int x))) S h post) : zJ l Xi M d kc ks pc Ls (.int x :: S) h post := by
  subst hj
  exact zJ_istore_n hd hi hL k
theorem zJ_astore_m (j : Nat) {i : Fin 4} {x : Nat} (hd : decode M.2.2.1 pc = .ok (.astore_n i, 1)) (hj : (i : Nat) = j) (hi : j < Ls.length) (hL : j < M.2.2.2.1) (k : zJ l Xi M d kc ks (pc + 1) (Ls.set j (some (.ref x))) S h post) : zJ l Xi M d kc ks pc Ls (.ref x :: S) h post := by
  subst hj
  exact zJ_astore_n hd hi hL k
/-- locals, stack by equals -/
theorem zJ_eq {Ls' : List (Option Value)} {S' : List Value} {h' : zH} (e1 : Ls = Ls') (e2 : S = S') (e3 : h = h') (k : zJ l Xi M d kc ks pc Ls' S' h' post) : zJ l Xi M d kc ks pc Ls S h post := by
  subst e1 e2 e3
  exact k
end ZMO
/-- locals known on the left are so on the right -/
def zle : List (Option Value) → List (Option Value) → Prop
  | [], _ => True
  | _ :: _, [] => False
  | a :: as, b :: bs => (a = none ∨ a = b) ∧ zle as bs
theorem zle_0 {bs : List (Option Value)} : zle [] bs := by cases bs <;> exact trivial
theorem zle_r {a : Option Value} {as bs : List (Option Value)} (h : zle as bs) : zle (a :: as) (a :: bs) := ⟨Or.inr rfl, h⟩
theorem zle_n {b : Option Value} {as bs : List (Option Value)} (h : zle as bs) : zle (none :: as) (b :: bs) := ⟨Or.inl rfl, h⟩
theorem zle_i {x y : Int32} {as bs : List (Option Value)} (e : x = y) (h : zle as bs) : zle (some (.int x) :: as) (some (.int y) :: bs) := ⟨Or.inr (by rw [e]), h⟩
theorem zle_at : ∀ {as bs : List (Option Value)}, zle as bs → ∀ (i : Nat) (v : Value), as[i]? = some (some v) → bs[i]? = some (some v)
  | [], bs, _, i, v, h => by simp at h
  | a :: as, [], h, i, v, _ => h.elim
  | a :: as, b :: bs, h, 0, v, hv => by
    simp at hv
    rcases h.1 with e | e
    · rw [e] at hv; cases hv
    · simp [← e, hv]
  | a :: as, b :: bs, h, i + 1, v, hv => by
    simp at hv ⊢
    exact zle_at h.2 i v hv
theorem zJ_back {l : Launch} {Xi : zXi} {M : zM} {d kc ks pc : Nat} {Ls Ls' : List (Option Value)} {S : List Value} {h h' : zH} {post : zR → zH → Prop} (hle : zle Ls' Ls) (hm : h = h') (k : zJ l Xi M d kc ks pc Ls' S h' post) : zJ l Xi M d kc ks pc Ls S h post := by
  subst hm
  exact zJ_less (zle_at hle) k
theorem zup_row {I : zI} {a j b : Nat} {x : Int32} (h : b ≠ a) : zup I a j x b = I b := by simp [zup, va_up, h]
theorem zup_same {I : zI} {a j : Nat} {x : Int32} : zup I a j x a = upd (I a) j x := by simp [zup, va_up]
theorem va_up_row {I : zI} {a b : Nat} {f : Nat → Int32} (h : b ≠ a) : va_up I a f b = I b := by simp [va_up, h]
theorem va_up_same {I : zI} {a : Nat} {f : Nat → Int32} : va_up I a f a = f := by simp [va_up]
theorem zK_rf {g : zG} {b ci : Nat} {fs : List (Nat × Nat × Nat)} (h : zK g b ci fs) (k f o n : Nat) (e : fs[k]? = some (f, o, n)) : zRf g b f (b + o) := (h.2 k _ e).1
theorem zK_ar {g : zG} {b ci : Nat} {fs : List (Nat × Nat × Nat)} (h : zK g b ci fs) (k f o n : Nat) (e : fs[k]? = some (f, o, n)) : zAr g (b + o) n := (h.2 k _ e).2
/-- a loop from 0 on -/
def lp {α : Type} (f : Nat → α → α) (a : α) : Nat → α
  | 0 => a
  | k + 1 => f k (lp f a k)
theorem lp_congr {α : Type} {f f' : Nat → α → α} {a : α} : ∀ {n : Nat}, (∀ k, k < n → ∀ x, f k x = f' k x) → lp f a n = lp f' a n
  | 0, _ => rfl
  | n + 1, h => by
    show f n (lp f a n) = f' n (lp f' a n)
    rw [lp_congr (n := n) (fun k hk => h k (by omega)), h n (by omega)]
theorem zb0 {b : Bool} : ((if b then (1 : Int32) else 0) = 0) ↔ b = false := by cases b <;> decide
theorem zb1 {b : Bool} : (¬ (if b then (1 : Int32) else 0) = 0) ↔ b = true := by cases b <;> decide
theorem zbr {b : Bool} : (if b then (1 : Int32) else 0) = 0 ∨ (if b then (1 : Int32) else 0) = 1 := by cases b <;> decide
theorem nI1 : nI 1 = 1 := rfl
theorem nI0 : nI 0 = 0 := rfl
/-- the shapes of what the two constructors make, by number -/
def zS0 (k : Nat) : zS :=
    if k < 82 then ([.inl 12, .inl 10, .inr (0, 600), .inl 0, .inr (0, 6), .inr (0, 6), .inr (0, 6), .inr (0, 24), .inr (0, 64), .inr (0, 64), .inr (0, 64), .inr (0, 256), .inl 0, .inr (0, 6), .inr (0, 6), .inr (0, 6), .inr (0, 24), .inr (0, 64), .inr (0, 64), .inr (0, 64), .inr (0, 256), .inl 5, .inr (0, 8), .inr (0, 150), .inr (0, 32), .inl 5, .inr (0, 8), .inr (0, 150), .inr (0, 32), .inl 1, .inr (0, 8), .inr (0, 8), .inl 1, .inr (0, 8), .inr (0, 8), .inl 11, .inr (0, 150), .inr (0, 150), .inr (0, 150), .inr (0, 6), .inr (0, 6), .inl 9, .inr (0, 64), .inl 6, .inl 3, .inr (0, 320), .inr (0, 64), .inr (0, 64), .inr (0, 64), .inl 4, .inl 3, .inr (0, 320), .inr (0, 512), .inl 2, .inr (0, 12), .inr (0, 768), .inr (0, 7), .inl 7, .inr (2, 16), .inr (2, 3), .inr (2, 48), .inr (0, 3), .inl 8, .inr (0, 384), .inr (0, 64), .inr (0, 64), .inr (0, 64), .inr (0, 6), .inl 8, .inr (0, 384), .inr (0, 64), .inr (0, 64), .inr (0, 64), .inr (0, 6), .inl 13, .inr (0, 600), .inr (0, 2), .inr (0, 4), .inr (0, 4), .inr (0, 64), .inr (0, 64), .inr (0, 64)] : List zS).getD (k - 0) (.inl 99) else
    if k < 89 then (if k = 82 then .inr (3, 6) else .inr (0, 3)) else
    if k < 96 then (if k = 89 then .inr (3, 6) else .inr (0, 3)) else
    if k < 103 then (if k = 96 then .inr (3, 6) else .inr (0, 4)) else
    if k < 110 then (if k = 103 then .inr (3, 6) else .inr (0, 4)) else
    if k < 271 then (if k = 110 then .inr (3, 160) else .inr (0, 2)) else
    if k < 432 then (if k = 271 then .inr (3, 160) else .inr (0, 2)) else
    if k < 441 then (if k = 432 then .inr (3, 8) else .inr (0, 2)) else
    if k < 450 then (if k = 441 then .inr (3, 8) else .inr (0, 2)) else
    if k < 452 then ([.inr (0, 160), .inr (0, 8)] : List zS).getD (k - 450) (.inl 99) else
    if k < 533 then (if k = 452 then .inr (3, 80) else .inr (0, 4)) else
    if k < 536 then ([.inr (0, 519), .inr (0, 519), .inr (0, 519)] : List zS).getD (k - 533) (.inl 99) else
    if k < 553 then (if k = 536 then .inr (3, 16) else .inr (0, 519)) else
    if k < 557 then (if k = 553 then .inr (3, 3) else .inr (0, 8824)) else
    if k < 560 then ([.inr (0, 64), .inr (0, 64), .inr (4, 64)] : List zS).getD (k - 557) (.inl 99) else
    if k < 577 then (if k = 560 then .inr (3, 16) else .inr (0, 64)) else
    if k < 642 then (if k = 577 then .inr (3, 64) else .inr (0, 7)) else
    .inl 99
/-- where their references lead -/
def zJ0 (k j : Nat) : Option Nat := match k with
  | 0 => ([some 1, some 3, some 12, some 21, some 25, some 29, some 32, some 35, some 41, some 43, some 49, some 53, some 57, some 62, some 68] : List (Option Nat)).getD j none
  | 1 => ([some 2] : List (Option Nat)).getD j none
  | 3 => ([none, none, none, none, some 4, some 5, some 6, some 7, some 8, some 9, some 10, some 11] : List (Option Nat)).getD j none
  | 12 => ([none, none, none, none, some 13, some 14, some 15, some 16, some 17, some 18, some 19, some 20] : List (Option Nat)).getD j none
  | 21 => ([some 22, some 23, some 24] : List (Option Nat)).getD j none
  | 25 => ([some 26, some 27, some 28] : List (Option Nat)).getD j none
  | 29 => ([none, some 30, some 31] : List (Option Nat)).getD j none
  | 32 => ([none, some 33, some 34] : List (Option Nat)).getD j none
  | 35 => ([none, none, none, some 36, some 37, some 38, some 39, some 40] : List (Option Nat)).getD j none
  | 41 => ([some 3, some 42] : List (Option Nat)).getD j none
  | 43 => ([some 3, some 21, some 41, some 44, some 46, some 47, some 48] : List (Option Nat)).getD j none
  | 44 => ([some 45] : List (Option Nat)).getD j none
  | 49 => ([some 3, some 50, some 52] : List (Option Nat)).getD j none
  | 50 => ([some 51] : List (Option Nat)).getD j none
  | 53 => ([some 3, some 29, some 43, some 54, some 55, some 56] : List (Option Nat)).getD j none
  | 57 => ([none, none, some 58, some 59, some 60, some 61] : List (Option Nat)).getD j none
  | 62 => ([some 63, some 64, some 65, some 66, some 67] : List (Option Nat)).getD j none
  | 68 => ([some 69, some 70, some 71, some 72, some 73] : List (Option Nat)).getD j none
  | 74 => ([none, none, none, none, none, none, none, none, none, some 75, some 76, some 77, some 78, some 79, some 80, some 81, some 82, some 89, some 96, some 103, none, none, some 110, some 271, some 432, some 441, some 450, some 451, some 452, none, some 533, some 534, some 535, some 536, some 553, none, none, none, none, none, some 557, some 558, some 559, none, none, some 560, some 577] : List (Option Nat)).getD j none
  | 82 => if j < 6 then some (82 + 1 + j) else none
  | 89 => if j < 6 then some (89 + 1 + j) else none
  | 96 => if j < 6 then some (96 + 1 + j) else none
  | 103 => if j < 6 then some (103 + 1 + j) else none
  | 110 => if j < 160 then some (110 + 1 + j) else none
  | 271 => if j < 160 then some (271 + 1 + j) else none
  | 432 => if j < 8 then some (432 + 1 + j) else none
  | 441 => if j < 8 then some (441 + 1 + j) else none
  | 452 => if j < 80 then some (452 + 1 + j) else none
  | 536 => if j < 16 then some (536 + 1 + j) else none
  | 553 => if j < 3 then some (553 + 1 + j) else none
  | 560 => if j < 16 then some (560 + 1 + j) else none
  | 577 => if j < 64 then some (577 + 1 + j) else none
  | _ => none
def zSt (g : zG) : Prop := 642 ≤ g.1 ∧ (∀ k, k < 642 → g.2.1 k = zS0 k) ∧ ∀ k j a, k < 642 → zJ0 k j = some a → g.2.2.1 k j = some a
theorem zSt_ob {g : zG} (hs : zSt g) (n ci : Nat) (h : zS0 n = .inl ci) (hn : n < 642 := by decide) : zOb g n ci := ⟨Nat.lt_of_lt_of_le hn hs.1, (hs.2.1 n hn).trans h⟩
theorem zSt_ar {g : zG} (hs : zSt g) (n N : Nat) (h : zS0 n = .inr (0, N)) (hn : n < 642 := by decide) : zAr g n N := ⟨Nat.lt_of_lt_of_le hn hs.1, (hs.2.1 n hn).trans h⟩
theorem zSt_bo {g : zG} (hs : zSt g) (n N : Nat) (h : zS0 n = .inr (4, N)) (hn : n < 642 := by decide) : zBo g n N := ⟨Nat.lt_of_lt_of_le hn hs.1, (hs.2.1 n hn).trans h⟩
theorem zSt_rf {g : zG} (hs : zSt g) (n j a : Nat) (h : zJ0 n j = some a) (hn : n < 642 := by decide) : zRf g n j a := hs.2.2 n j a hn h
theorem zSt_board {g : zG} (hs : zSt g) : zK g 3 0 zLt_Board := by
  refine ⟨zSt_ob hs 3 0 rfl, fun k q hq => ?_⟩
  match k, hq with
  | 0, hq => cases hq; exact ⟨zSt_rf hs 3 4 4 rfl, zSt_ar hs 4 6 rfl⟩
  | 1, hq => cases hq; exact ⟨zSt_rf hs 3 5 5 rfl, zSt_ar hs 5 6 rfl⟩
  | 2, hq => cases hq; exact ⟨zSt_rf hs 3 6 6 rfl, zSt_ar hs 6 6 rfl⟩
  | 3, hq => cases hq; exact ⟨zSt_rf hs 3 7 7 rfl, zSt_ar hs 7 24 rfl⟩
  | 4, hq => cases hq; exact ⟨zSt_rf hs 3 8 8 rfl, zSt_ar hs 8 64 rfl⟩
  | 5, hq => cases hq; exact ⟨zSt_rf hs 3 9 9 rfl, zSt_ar hs 9 64 rfl⟩
  | 6, hq => cases hq; exact ⟨zSt_rf hs 3 10 10 rfl, zSt_ar hs 10 64 rfl⟩
  | 7, hq => cases hq; exact ⟨zSt_rf hs 3 11 11 rfl, zSt_ar hs 11 256 rfl⟩
  | k + 8, hq => simp [zLt_Board] at hq
theorem zSt_spareBoard {g : zG} (hs : zSt g) : zK g 12 0 zLt_Board := by
  refine ⟨zSt_ob hs 12 0 rfl, fun k q hq => ?_⟩
  match k, hq with
  | 0, hq => cases hq; exact ⟨zSt_rf hs 12 4 13 rfl, zSt_ar hs 13 6 rfl⟩
  | 1, hq => cases hq; exact ⟨zSt_rf hs 12 5 14 rfl, zSt_ar hs 14 6 rfl⟩
  | 2, hq => cases hq; exact ⟨zSt_rf hs 12 6 15 rfl, zSt_ar hs 15 6 rfl⟩
  | 3, hq => cases hq; exact ⟨zSt_rf hs 12 7 16 rfl, zSt_ar hs 16 24 rfl⟩
  | 4, hq => cases hq; exact ⟨zSt_rf hs 12 8 17 rfl, zSt_ar hs 17 64 rfl⟩
  | 5, hq => cases hq; exact ⟨zSt_rf hs 12 9 18 rfl, zSt_ar hs 18 64 rfl⟩
  | 6, hq => cases hq; exact ⟨zSt_rf hs 12 10 19 rfl, zSt_ar hs 19 64 rfl⟩
  | 7, hq => cases hq; exact ⟨zSt_rf hs 12 11 20 rfl, zSt_ar hs 20 256 rfl⟩
  | k + 8, hq => simp [zLt_Board] at hq
theorem zSt_law {g : zG} (hs : zSt g) : zK g 21 5 zLt_Law := by
  refine ⟨zSt_ob hs 21 5 rfl, fun k q hq => ?_⟩
  match k, hq with
  | 0, hq => cases hq; exact ⟨zSt_rf hs 21 0 22 rfl, zSt_ar hs 22 8 rfl⟩
  | 1, hq => cases hq; exact ⟨zSt_rf hs 21 1 23 rfl, zSt_ar hs 23 150 rfl⟩
  | 2, hq => cases hq; exact ⟨zSt_rf hs 21 2 24 rfl, zSt_ar hs 24 32 rfl⟩
  | k + 3, hq => simp [zLt_Law] at hq
theorem zSt_spareLaw {g : zG} (hs : zSt g) : zK g 25 5 zLt_Law := by
  refine ⟨zSt_ob hs 25 5 rfl, fun k q hq => ?_⟩
  match k, hq with
  | 0, hq => cases hq; exact ⟨zSt_rf hs 25 0 26 rfl, zSt_ar hs 26 8 rfl⟩
  | 1, hq => cases hq; exact ⟨zSt_rf hs 25 1 27 rfl, zSt_ar hs 27 150 rfl⟩
  | 2, hq => cases hq; exact ⟨zSt_rf hs 25 2 28 rfl, zSt_ar hs 28 32 rfl⟩
  | k + 3, hq => simp [zLt_Law] at hq
theorem zSt_book {g : zG} (hs : zSt g) : zK g 29 1 zLt_Book := by
  refine ⟨zSt_ob hs 29 1 rfl, fun k q hq => ?_⟩
  match k, hq with
  | 0, hq => cases hq; exact ⟨zSt_rf hs 29 1 30 rfl, zSt_ar hs 30 8 rfl⟩
  | 1, hq => cases hq; exact ⟨zSt_rf hs 29 2 31 rfl, zSt_ar hs 31 8 rfl⟩
  | k + 2, hq => simp [zLt_Book] at hq
theorem zSt_spareBook {g : zG} (hs : zSt g) : zK g 32 1 zLt_Book := by
  refine ⟨zSt_ob hs 32 1 rfl, fun k q hq => ?_⟩
  match k, hq with
  | 0, hq => cases hq; exact ⟨zSt_rf hs 32 1 33 rfl, zSt_ar hs 33 8 rfl⟩
  | 1, hq => cases hq; exact ⟨zSt_rf hs 32 2 34 rfl, zSt_ar hs 34 8 rfl⟩
  | k + 2, hq => simp [zLt_Book] at hq
theorem zSt_heapR {g : zG} (hs : zSt g) : zK g 44 3 zLt_Heap := by
  refine ⟨zSt_ob hs 44 3 rfl, fun k q hq => ?_⟩
  match k, hq with
  | 0, hq => cases hq; exact ⟨zSt_rf hs 44 0 45 rfl, zSt_ar hs 45 320 rfl⟩
  | k + 1, hq => simp [zLt_Heap] at hq
theorem zSt_heapJ {g : zG} (hs : zSt g) : zK g 50 3 zLt_Heap := by
  refine ⟨zSt_ob hs 50 3 rfl, fun k q hq => ?_⟩
  match k, hq with
  | 0, hq => cases hq; exact ⟨zSt_rf hs 50 0 51 rfl, zSt_ar hs 51 320 rfl⟩
  | k + 1, hq => simp [zLt_Heap] at hq
theorem zSt_state {g : zG} (hs : zSt g) : zK g 62 8 zLt_State := by
  refine ⟨zSt_ob hs 62 8 rfl, fun k q hq => ?_⟩
  match k, hq with
  | 0, hq => cases hq; exact ⟨zSt_rf hs 62 0 63 rfl, zSt_ar hs 63 384 rfl⟩
  | 1, hq => cases hq; exact ⟨zSt_rf hs 62 1 64 rfl, zSt_ar hs 64 64 rfl⟩
  | 2, hq => cases hq; exact ⟨zSt_rf hs 62 2 65 rfl, zSt_ar hs 65 64 rfl⟩
  | 3, hq => cases hq; exact ⟨zSt_rf hs 62 3 66 rfl, zSt_ar hs 66 64 rfl⟩
  | 4, hq => cases hq; exact ⟨zSt_rf hs 62 4 67 rfl, zSt_ar hs 67 6 rfl⟩
  | k + 5, hq => simp [zLt_State] at hq
theorem zSt_scratch {g : zG} (hs : zSt g) : zK g 68 8 zLt_State := by
  refine ⟨zSt_ob hs 68 8 rfl, fun k q hq => ?_⟩
  match k, hq with
  | 0, hq => cases hq; exact ⟨zSt_rf hs 68 0 69 rfl, zSt_ar hs 69 384 rfl⟩
  | 1, hq => cases hq; exact ⟨zSt_rf hs 68 1 70 rfl, zSt_ar hs 70 64 rfl⟩
  | 2, hq => cases hq; exact ⟨zSt_rf hs 68 2 71 rfl, zSt_ar hs 71 64 rfl⟩
  | 3, hq => cases hq; exact ⟨zSt_rf hs 68 3 72 rfl, zSt_ar hs 72 64 rfl⟩
  | 4, hq => cases hq; exact ⟨zSt_rf hs 68 4 73 rfl, zSt_ar hs 73 6 rfl⟩
  | k + 5, hq => simp [zLt_State] at hq
theorem zSt_g82 {g : zG} (hs : zSt g) : zGr g 82 6 3 := by
  refine ⟨Nat.lt_of_lt_of_le (by decide) hs.1, (hs.2.1 82 (by decide)).trans rfl, fun i hi => ⟨hs.2.2 82 i (82 + 1 + i) (by decide) (by simp [zJ0, hi]), Nat.lt_of_lt_of_le (show 82 + 1 + i < 642 by omega) hs.1, (hs.2.1 (82 + 1 + i) (by omega)).trans ?_⟩⟩
  unfold zS0
  have h : ∀ i, i < 6 → zS0 (82 + 1 + i) = .inr (0, 3) := by decide +kernel
  exact h i hi
theorem zSt_g89 {g : zG} (hs : zSt g) : zGr g 89 6 3 := by
  refine ⟨Nat.lt_of_lt_of_le (by decide) hs.1, (hs.2.1 89 (by decide)).trans rfl, fun i hi => ⟨hs.2.2 89 i (89 + 1 + i) (by decide) (by simp [zJ0, hi]), Nat.lt_of_lt_of_le (show 89 + 1 + i < 642 by omega) hs.1, (hs.2.1 (89 + 1 + i) (by omega)).trans ?_⟩⟩
  unfold zS0
  have h : ∀ i, i < 6 → zS0 (89 + 1 + i) = .inr (0, 3) := by decide +kernel
  exact h i hi
theorem zSt_g96 {g : zG} (hs : zSt g) : zGr g 96 6 4 := by
  refine ⟨Nat.lt_of_lt_of_le (by decide) hs.1, (hs.2.1 96 (by decide)).trans rfl, fun i hi => ⟨hs.2.2 96 i (96 + 1 + i) (by decide) (by simp [zJ0, hi]), Nat.lt_of_lt_of_le (show 96 + 1 + i < 642 by omega) hs.1, (hs.2.1 (96 + 1 + i) (by omega)).trans ?_⟩⟩
  unfold zS0
  have h : ∀ i, i < 6 → zS0 (96 + 1 + i) = .inr (0, 4) := by decide +kernel
  exact h i hi
theorem zSt_g103 {g : zG} (hs : zSt g) : zGr g 103 6 4 := by
  refine ⟨Nat.lt_of_lt_of_le (by decide) hs.1, (hs.2.1 103 (by decide)).trans rfl, fun i hi => ⟨hs.2.2 103 i (103 + 1 + i) (by decide) (by simp [zJ0, hi]), Nat.lt_of_lt_of_le (show 103 + 1 + i < 642 by omega) hs.1, (hs.2.1 (103 + 1 + i) (by omega)).trans ?_⟩⟩
  unfold zS0
  have h : ∀ i, i < 6 → zS0 (103 + 1 + i) = .inr (0, 4) := by decide +kernel
  exact h i hi
theorem zSt_g110 {g : zG} (hs : zSt g) : zGr g 110 160 2 := by
  refine ⟨Nat.lt_of_lt_of_le (by decide) hs.1, (hs.2.1 110 (by decide)).trans rfl, fun i hi => ⟨hs.2.2 110 i (110 + 1 + i) (by decide) (by simp [zJ0, hi]), Nat.lt_of_lt_of_le (show 110 + 1 + i < 642 by omega) hs.1, (hs.2.1 (110 + 1 + i) (by omega)).trans ?_⟩⟩
  unfold zS0
  have h : ∀ i, i < 160 → zS0 (110 + 1 + i) = .inr (0, 2) := by decide +kernel
  exact h i hi
theorem zSt_g271 {g : zG} (hs : zSt g) : zGr g 271 160 2 := by
  refine ⟨Nat.lt_of_lt_of_le (by decide) hs.1, (hs.2.1 271 (by decide)).trans rfl, fun i hi => ⟨hs.2.2 271 i (271 + 1 + i) (by decide) (by simp [zJ0, hi]), Nat.lt_of_lt_of_le (show 271 + 1 + i < 642 by omega) hs.1, (hs.2.1 (271 + 1 + i) (by omega)).trans ?_⟩⟩
  unfold zS0
  have h : ∀ i, i < 160 → zS0 (271 + 1 + i) = .inr (0, 2) := by decide +kernel
  exact h i hi
theorem zSt_g432 {g : zG} (hs : zSt g) : zGr g 432 8 2 := by
  refine ⟨Nat.lt_of_lt_of_le (by decide) hs.1, (hs.2.1 432 (by decide)).trans rfl, fun i hi => ⟨hs.2.2 432 i (432 + 1 + i) (by decide) (by simp [zJ0, hi]), Nat.lt_of_lt_of_le (show 432 + 1 + i < 642 by omega) hs.1, (hs.2.1 (432 + 1 + i) (by omega)).trans ?_⟩⟩
  unfold zS0
  have h : ∀ i, i < 8 → zS0 (432 + 1 + i) = .inr (0, 2) := by decide +kernel
  exact h i hi
theorem zSt_g441 {g : zG} (hs : zSt g) : zGr g 441 8 2 := by
  refine ⟨Nat.lt_of_lt_of_le (by decide) hs.1, (hs.2.1 441 (by decide)).trans rfl, fun i hi => ⟨hs.2.2 441 i (441 + 1 + i) (by decide) (by simp [zJ0, hi]), Nat.lt_of_lt_of_le (show 441 + 1 + i < 642 by omega) hs.1, (hs.2.1 (441 + 1 + i) (by omega)).trans ?_⟩⟩
  unfold zS0
  have h : ∀ i, i < 8 → zS0 (441 + 1 + i) = .inr (0, 2) := by decide +kernel
  exact h i hi
theorem zSt_g452 {g : zG} (hs : zSt g) : zGr g 452 80 4 := by
  refine ⟨Nat.lt_of_lt_of_le (by decide) hs.1, (hs.2.1 452 (by decide)).trans rfl, fun i hi => ⟨hs.2.2 452 i (452 + 1 + i) (by decide) (by simp [zJ0, hi]), Nat.lt_of_lt_of_le (show 452 + 1 + i < 642 by omega) hs.1, (hs.2.1 (452 + 1 + i) (by omega)).trans ?_⟩⟩
  unfold zS0
  have h : ∀ i, i < 80 → zS0 (452 + 1 + i) = .inr (0, 4) := by decide +kernel
  exact h i hi
theorem zSt_g536 {g : zG} (hs : zSt g) : zGr g 536 16 519 := by
  refine ⟨Nat.lt_of_lt_of_le (by decide) hs.1, (hs.2.1 536 (by decide)).trans rfl, fun i hi => ⟨hs.2.2 536 i (536 + 1 + i) (by decide) (by simp [zJ0, hi]), Nat.lt_of_lt_of_le (show 536 + 1 + i < 642 by omega) hs.1, (hs.2.1 (536 + 1 + i) (by omega)).trans ?_⟩⟩
  unfold zS0
  have h : ∀ i, i < 16 → zS0 (536 + 1 + i) = .inr (0, 519) := by decide +kernel
  exact h i hi
theorem zSt_g553 {g : zG} (hs : zSt g) : zGr g 553 3 8824 := by
  refine ⟨Nat.lt_of_lt_of_le (by decide) hs.1, (hs.2.1 553 (by decide)).trans rfl, fun i hi => ⟨hs.2.2 553 i (553 + 1 + i) (by decide) (by simp [zJ0, hi]), Nat.lt_of_lt_of_le (show 553 + 1 + i < 642 by omega) hs.1, (hs.2.1 (553 + 1 + i) (by omega)).trans ?_⟩⟩
  unfold zS0
  have h : ∀ i, i < 3 → zS0 (553 + 1 + i) = .inr (0, 8824) := by decide +kernel
  exact h i hi
theorem zSt_g560 {g : zG} (hs : zSt g) : zGr g 560 16 64 := by
  refine ⟨Nat.lt_of_lt_of_le (by decide) hs.1, (hs.2.1 560 (by decide)).trans rfl, fun i hi => ⟨hs.2.2 560 i (560 + 1 + i) (by decide) (by simp [zJ0, hi]), Nat.lt_of_lt_of_le (show 560 + 1 + i < 642 by omega) hs.1, (hs.2.1 (560 + 1 + i) (by omega)).trans ?_⟩⟩
  unfold zS0
  have h : ∀ i, i < 16 → zS0 (560 + 1 + i) = .inr (0, 64) := by decide +kernel
  exact h i hi
theorem zSt_g577 {g : zG} (hs : zSt g) : zGr g 577 64 7 := by
  refine ⟨Nat.lt_of_lt_of_le (by decide) hs.1, (hs.2.1 577 (by decide)).trans rfl, fun i hi => ⟨hs.2.2 577 i (577 + 1 + i) (by decide) (by simp [zJ0, hi]), Nat.lt_of_lt_of_le (show 577 + 1 + i < 642 by omega) hs.1, (hs.2.1 (577 + 1 + i) (by omega)).trans ?_⟩⟩
  unfold zS0
  have h : ∀ i, i < 64 → zS0 (577 + 1 + i) = .inr (0, 7) := by decide +kernel
  exact h i hi
/-- contracts by a relation: no answer, an int -/
def zEv (l : Launch) (Xi : zXi) (M : zM) (d : Nat) (av : List Value) (I : zI) (g : zG) (Q : zI → Prop) : Prop := zC l Xi M d 0 0 av (I, g) (fun r' h' => r' = .inl none ∧ ∃ I', h' = (I', g) ∧ Q I')
def zEi (l : Launch) (Xi : zXi) (M : zM) (d : Nat) (av : List Value) (I : zI) (g : zG) (Q : Int32 → zI → Prop) : Prop := zC l Xi M d 0 0 av (I, g) (fun r' h' => ∃ x I', r' = .inl (some (.int x)) ∧ h' = (I', g) ∧ Q x I')
section ZPE
variable {l : Launch} {Xi : zXi} {M : zM} {d kc ks pc : Nat} {Ls : List (Option Value)} {S : List Value} {I : zI} {g : zG} {post : zR → zH → Prop}
theorem zP_ecallVv {M' : zM} {idx ci b d' : Nat} {Q : zI → Prop} (As rest : List Value) (lk : zLV M.1 idx M' ci As.length) (hC : zEv l Xi M' d' (.ref b :: As) I g Q) (ho : zOb g b ci) (hst : S = As.reverse ++ .ref b :: rest) (hd1 : d' + 1 ≤ d) (hcat : (rest.map fun v => v.category).sum ≤ 8) (hM : M.2.2.2.2.2 = []) (hd : decode M.2.2.1 pc = .ok (.invokevirtual idx, 3))
    (kk : ∀ I', Q I' → zJ l Xi M d kc ks (pc + 3) Ls rest (I', g) post) : zJ l Xi M d kc ks pc Ls S (I, g) post :=
  zJ_callV (h := (I, g)) (kc' := 0) (ks' := 0) As rest lk hC ho.1 ho.2 hst hd1 hcat hM hd (fun E h1 q _ => by cases q.1) (fun r' h1 q _ => by obtain ⟨q1, I', q2, q3⟩ := q; cases q1; rw [q2]; exact kk I' q3)
theorem zP_ecallVi {M' : zM} {idx ci b d' : Nat} {Q : Int32 → zI → Prop} (As rest : List Value) (lk : zLV M.1 idx M' ci As.length) (hC : zEi l Xi M' d' (.ref b :: As) I g Q) (ho : zOb g b ci) (hst : S = As.reverse ++ .ref b :: rest) (hd1 : d' + 1 ≤ d) (hcat : (rest.map fun v => v.category).sum ≤ 8) (hM : M.2.2.2.2.2 = []) (hd : decode M.2.2.1 pc = .ok (.invokevirtual idx, 3))
    (kk : ∀ x I', Q x I' → zJ l Xi M d kc ks (pc + 3) Ls (.int x :: rest) (I', g) post) : zJ l Xi M d kc ks pc Ls S (I, g) post :=
  zJ_callV (h := (I, g)) (kc' := 0) (ks' := 0) As rest lk hC ho.1 ho.2 hst hd1 hcat hM hd (fun E h1 q _ => by obtain ⟨x, I', q1, -⟩ := q; cases q1) (fun r' h1 q _ => by obtain ⟨x, I', q1, q2, q3⟩ := q; cases q1; rw [q2]; exact kk x I' q3)
end ZPE
theorem zJ_mono {l : Launch} {Xi : zXi} {M : zM} {d kc ks pc : Nat} {Ls : List (Option Value)} {S : List Value} {h : zH} {post : zR → zH → Prop} (k : zJ l Xi M d kc ks pc Ls S h post) {post' : zR → zH → Prop} (hp : ∀ r h', post r h' → post' r h') : zJ l Xi M d kc ks pc Ls S h post' := zJ_post hp k
theorem vx_imp {l : Launch} {M : zM} {ws : List Cond} {rm : Room} {Pc : Array Value → State → Prop} {D : va_G} {cT : Nat → ClassId} {ao ad : Nat → Nat} {A : Nat → Prop} {n0 mc ms : Nat} {fr : Addr → Prop} {post post' : zR → zH → Prop} (k : vx_Met l M.2.1 ws rm Pc (zQ D cT ao A n0 ad post) (zX D cT ao A n0 ad post) mc ms fr) (hp : ∀ r h', post r h' → post' r h') : vx_Met l M.2.1 ws rm Pc (zQ D cT ao A n0 ad post') (zX D cT ao A n0 ad post') mc ms fr := by
  intro p e ha hc hk s m args below hf happ hP hK
  obtain ⟨n, o, h1, h2, h3, h4⟩ := k p e ha hc hk s m args below hf happ hP hK
  refine ⟨n, o, h1, h2, h3, ?_⟩
  rcases h4 with ⟨⟨⟨r, h', ad', q1, q2, q3⟩, q4⟩, q5⟩ | ⟨q, e1, E1, ce, L, ⟨⟨h', ad', g1, g2⟩, g3⟩, g4⟩
  · exact Or.inl ⟨⟨⟨r, h', ad', q1, hp _ _ q2, q3⟩, q4⟩, q5⟩
  · exact Or.inr ⟨q, e1, E1, ce, L, ⟨⟨h', ad', hp _ _ g1, g2⟩, g3⟩, g4⟩
theorem zC_imp {l : Launch} {Xi : zXi} {M : zM} {d kc ks : Nat} {av : List Value} {h : zH} {post post' : zR → zH → Prop} (k : zC l Xi M d kc ks av h post) (hp : ∀ r h', post r h' → post' r h') : zC l Xi M d kc ks av h post' := fun D cT ao ad sz => vx_imp (k D cT ao ad sz) hp
