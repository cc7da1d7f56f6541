/-! ===== the abstract heap: cells by number; ints, references, longs by cell and place ===== -/
def zGT : List Cond := lw_tbl.filter goodWord
theorem zGT_good {w : Cond} (h : w ∈ zGT) : goodWord w = true := (List.mem_filter.mp h).2
theorem zGT_at {w : Cond} (i : Nat) (h : lw_tbl[i]? = some w) (hg : goodWord w = true) : w ∈ zGT := List.mem_filter.mpr ⟨List.mem_of_getElem? h, hg⟩
/-- a method: its class, its name, its bytes, its locals, its answer's type, its handlers -/
abbrev zM : Type := String × MethodName × ByteArray × Nat × Option FieldType × List (Nat × Nat × Nat × Nat)
def zcode (M : zM) : Cond := match M.2.2.2.2.2 with
  | [] => .code M.2.1 M.2.2.1 M.2.2.2.1 M.2.2.2.2.1
  | _ => .codeWith M.2.1 M.2.2.1 M.2.2.2.1 M.2.2.2.2.1 M.2.2.2.2.2
def zws (M : zM) : List Cond := zcode M :: zGT
/-- a shape: an object of a class by its number; an array of a kind (0 int, 1 long, 2 State, 3 rows of ints, 4 boolean) and a length -/
abbrev zS : Type := Nat ⊕ (Nat × Nat)
/-- ints, how many cells, shapes, references, longs -/
abbrev zH : Type := (Nat → Nat → Int32) × Nat × (Nat → zS) × (Nat → Nat → Option Nat) × (Nat → Nat → Int64)
/-- which fields of a class are ints -/
def zfl : Nat → List Bool
  | 0 => [true, true, true, true, false, false, false, false, false, false, false, false]
  | 1 => [true, false, false]
  | 2 => [false, false, false, false, false, false]
  | 3 => [false, true]
  | 4 => [false, false, false]
  | 5 => [false, false, false, true]
  | 6 => [false, false, false, false, false, false, false]
  | 7 => [true, true, false, false, false, false]
  | 8 => [false, false, false, false, false, true]
  | 9 => [false, false]
  | 10 => [false, true, true, true, true, true, true]
  | 11 => [true, true, true, false, false, false, false, false]
  | 12 => (List.range 19).map (fun k => decide ((TX12 k).2.2.1 = "I"))
  | 13 => (List.range 48).map (fun k => decide ((TX13 k).2.2.1 = "I"))
  | _ => []
def zv (ad : Nat → Nat) : Value → Value
  | .ref a => .ref (ad a)
  | v => v
def zfs (ad : Nat → Nat) (h : zH) (k : Nat) (bs : List Bool) : List Value := bs.mapIdx (fun j b => if b then .int (h.1 k j) else va_rf ((h.2.2.2.1 k j).map ad))
def zc (ad : Nat → Nat) (cT : Nat → ClassId) (h : zH) (k : Nat) : va_E :=
  match h.2.2.1 k with
  | .inl ci => .inr (ci, zfs ad h k (zfl ci))
  | .inr (0, N) => .inl (cT 0, N, .inl (h.1 k))
  | .inr (1, N) => .inl (cT 1, N, .inr (.inl (h.2.2.2.2 k)))
  | .inr (4, N) => .inl (cT 4, N, .inl (h.1 k))
  | .inr (t + 2, N) => .inl (cT (t + 2), N, .inr (.inr (.inr (.inr (fun j => (h.2.2.2.1 k j).map ad)))))
def zw (ad : Nat → Nat) (cT : Nat → ClassId) (h : zH) : va_W := (List.range h.2.1).map (fun k => (ad k, zc ad cT h k))
theorem zw_at {ad : Nat → Nat} {cT : Nat → ClassId} {h : zH} {k : Nat} (hk : k < h.2.1) : (zw ad cT h)[k]? = some (ad k, zc ad cT h k) := by
  simp [zw, List.getElem?_map, List.getElem?_range hk]
theorem zw_lt {ad : Nat → Nat} {cT : Nat → ClassId} {h : zH} {k : Nat} {q : Nat × va_E} (hk : (zw ad cT h)[k]? = some q) : k < h.2.1 ∧ q = (ad k, zc ad cT h k) := by
  have h1 : k < (zw ad cT h).length := (List.getElem?_eq_some_iff.mp hk).1
  have h2 : k < h.2.1 := by simpa [zw] using h1
  rw [zw_at h2] at hk
  exact ⟨h2, (Option.some.inj hk).symm⟩
theorem zw_set {ad : Nat → Nat} {cT : Nat → ClassId} {h h' : zH} {k : Nat} (hk : k < h.2.1) (hn : h'.2.1 = h.2.1) (ho : ∀ j, j ≠ k → zc ad cT h' j = zc ad cT h j) : (zw ad cT h).set k (ad k, zc ad cT h' k) = zw ad cT h' := by
  apply List.ext_getElem?
  intro j
  by_cases hj : j < h.2.1
  · rw [zw_at (h := h') (by rw [hn]; exact hj)]
    by_cases e : j = k
    · subst e
      rw [List.getElem?_set_self (by simpa [zw] using hj)]
    · rw [List.getElem?_set_ne (Ne.symm e), zw_at hj, ho j e]
  · rw [List.getElem?_eq_none (by simpa [zw] using Nat.not_lt.mp hj), List.getElem?_eq_none (by simp [zw, hn]; omega)]
theorem zw_push {ad ad' : Nat → Nat} {cT : Nat → ClassId} {h h' : zH} (hn : h'.2.1 = h.2.1 + 1) (ha : ∀ j, j < h.2.1 → ad' j = ad j) (ho : ∀ j, j < h.2.1 → zc ad' cT h' j = zc ad cT h j) : zw ad cT h ++ [(ad' h.2.1, zc ad' cT h' h.2.1)] = zw ad' cT h' := by
  apply List.ext_getElem?
  intro j
  by_cases hj : j < h.2.1
  · rw [zw_at (h := h') (by omega), List.getElem?_append_left (by simpa [zw] using hj), zw_at hj, ho j hj, ha j hj]
  · have hl : (zw ad cT h).length = h.2.1 := by simp [zw]
    rw [List.getElem?_append_right (by omega), hl]
    by_cases e : j = h.2.1
    · subst e
      rw [zw_at (h := h') (by omega)]
      simp
    · rw [List.getElem?_eq_none (by simp; omega), List.getElem?_eq_none (by simp [zw]; omega)]
/-- the numbers of things that lie outside the world: 0 the script, 1 the law without a text, 10.. words -/
def zB : Nat := 1000000
def zok (n : Nat) : Value → Prop
  | .ref a => a < n ∨ zB ≤ a
  | _ => True
theorem zok_mono {n n' : Nat} (h : n ≤ n') {v : Value} (hv : zok n v) : zok n' v := by
  cases v with
  | ref a => exact hv.elim (fun q => Or.inl (Nat.lt_of_lt_of_le q h)) Or.inr
  | _ => trivial
/-- ad' says of the old numbers what ad says -/
def zext (n : Nat) (ad ad' : Nat → Nat) : Prop := ∀ a, a < n ∨ zB ≤ a → ad' a = ad a
theorem zext_zv {n : Nat} {ad ad' : Nat → Nat} (h : zext n ad ad') {v : Value} (hv : zok n v) : zv ad' v = zv ad v := by
  cases v with
  | ref a => exact congrArg Value.ref (h _ hv)
  | _ => rfl
theorem zext_rfl {n : Nat} {ad : Nat → Nat} : zext n ad ad := fun _ _ => rfl
theorem zext_trans {n n' : Nat} {a b c : Nat → Nat} (h : zext n a b) (hn : n ≤ n') (h2 : zext n' b c) : zext n a c := fun q hq => (h2 q (by omega)).trans (h q hq)
def zty (cT : Nat → ClassId) : List (ClassId × FieldType) := [(cT 0, .int), (cT 1, .long), (cT 2, .object RX8), (cT 3, .array .int), (cT 4, .boolean)]
/-- the strings: class, entry, text, number -/
def zstr : List (String × Nat × String × Nat) :=
  [(RX0, 83, "size", 10), (RX0, 89, "wall", 11), (RX0, 91, "wide", 12), (RX0, 93, "net", 13), (RX0, 95, "pin", 14), (RX0, 97, "gain", 15),
   (RX5, 104, "past", 16), (RX5, 106, "over", 17), (RX5, 108, "crit", 18), (RX5, 110, "round", 19), (RX5, 112, "wide", 12), (RX5, 114, "col", 20), (RX5, 116, "row", 21), (RX5, 118, "pins", 22), (RX5, 88, "least", 23), (RX5, 98, "most", 24),
   (RX11, 100, "ease", 25), (RX11, 61, "again", 26), (RX11, 71, "round", 19), (RX11, 77, "lay", 27), (RX11, 88, "rip", 28), (RX11, 90, "crit", 18), (RX11, 92, "block", 29),
   (RX12, 369, "no such length of a text", 30), (RX12, 374, "a number out of its range", 31), (RX12, 376, "no such what", 32), (RX12, 380, "no such net", 33), (RX12, 383, "no such row", 34), (RX12, 385, "no such place", 35)]
/-- the words' bytes, by number from 10 on -/
def zbyt : List (List Int32) :=
  [[115, 105, 122, 101], [119, 97, 108, 108], [119, 105, 100, 101], [110, 101, 116], [112, 105, 110], [103, 97, 105, 110], [112, 97, 115, 116], [111, 118, 101, 114], [99, 114, 105, 116], [114, 111, 117, 110, 100],
   [99, 111, 108], [114, 111, 119], [112, 105, 110, 115], [108, 101, 97, 115, 116], [109, 111, 115, 116], [101, 97, 115, 101], [97, 103, 97, 105, 110], [108, 97, 121], [114, 105, 112], [98, 108, 111, 99, 107]]
/-- what LAW_WITHOUT holds -/
def zLW (j : Nat) : Int32 := [1, 1000, 1001, 1003, 3, 2000, 2002, 2000, 10, 1002, 2001, 2002, 10, 2003, 2000].getD j 0
/-- the script: its length, its ints -/
abbrev zXi : Type := Nat × (Nat → Int32)
/-- private constructors of nest mates: who calls, the entry, whose -/
def znest : List (String × Nat × String) := [(RX12, 11, RX10), (RX12, 38, RX1), (RX12, 48, RX11), (RX6, 11, RX3), (RX4, 11, RX3), (RX12, 89, RX7), (RX12, 96, RX8), (RX7, 34, RX8)]
/-- constructors with a text that are declared where they are named -/
def zdecl : List MethodName := [Bundle.initS "java/lang/RuntimeException", Bundle.initS "java/lang/Exception", Bundle.initS Bundle.tN]
def zOut (Xi : zXi) (ao : Nat → Nat) (A : Nat → Prop) (U : State) (H : Heap) : Prop :=
  (va_X (ao 0) Xi.1 Xi.2 U H ∧ ao 0 < H.size ∧ ¬ A (ao 0)) ∧
  (va_Z RX12 "LAW_WITHOUT" "[I" (.ref (ao 1)) A U H ∧ va_T .int (ao 1) 15 (fun j => .int (zLW j)) A U H) ∧
  vk_S 20 (zbyt.map List.length) zbyt (fun i => ao (10 + i)) (fun i => ao (40 + i)) A U H ∧
  (∀ q ∈ zstr, vk_R q.1 q.2.1 q.2.2.1 (ao q.2.2.2) U) ∧
  va_Z RJ0 "COMPACT_STRINGS" "Z" (.int 1) A U H ∧
  vx_Zq Bundle.tN "UNASSIGNED_STACK" Bundle.steD A U H ∧ vx_Zq Bundle.tN "SUPPRESSED_SENTINEL" Bundle.listD A U H ∧
  va_AO RX8 U ∧ va_AOA .int U ∧ va_Nc "java/lang/IllegalArgumentException" "java/util/NoSuchElementException" U ∧ va_Nc "java/util/NoSuchElementException" "java/lang/IllegalArgumentException" U ∧
  (∀ q ∈ znest, va_Nw (.methodLinkNest q.1 q.2.1 ⟨q.2.2, "<init>", "()V"⟩ RX12) U) ∧ va_Nw (.fieldLinkNest RX5 24 RX12 "LAW_WITHOUT" "[I" RX12) U ∧
  va_Nw (.castable "java/lang/IllegalArgumentException" "java/lang/IllegalArgumentException") U ∧ va_Nw (.castable "java/util/NoSuchElementException" "java/util/NoSuchElementException") U ∧
  (va_Z RJ3 "SIOOBE_FORMATTER" "Ljava/util/function/BiFunction;" (.ref (ao 60)) A U H ∨ va_Z RJ3 "SIOOBE_FORMATTER" "Ljava/util/function/BiFunction;" .null A U H) ∧
  (∀ q ∈ zdecl, va_Nw (.declares q) U)
theorem va_AOA.moved {ty : FieldType} {u U : State} (hvm : u.vm.Alike U.vm) (h : va_AOA ty u) : va_AOA ty U := by
  obtain ⟨comp, c, k, h1, h2, h3, h4, h5⟩ := arrayOver_specB h
  obtain ⟨k', hk', he⟩ := hvm.2.2 _ _ h3
  have hi : (U.vm.classes.findIdx? fun (x : Class) => match x.kind with | .array component _ => component == comp | _ => false) = some c := by
    have e1 := va_idx_bare U.vm comp
    have e2 := va_idx_bare u.vm comp
    have e3 : U.vm.bare = u.vm.bare := by first | exact hvm.bare_eq | exact hvm.bare_eq.symm
    rw [e3] at e1
    exact e1.symm.trans (e2.trans h2)
  have hkind : k'.kind = .array comp (.array ty) := by rw [he]; exact h4
  have f1 : U.vm.findClass (FieldType.array ty).toString = some comp := by rw [hvm.findClass]; exact h1
  have f2 : U.vm.findClass ("[" ++ (FieldType.array ty).toString) = some c := by rw [hvm.findClass]; exact h5
  unfold va_AOA Cond.before Cond.holds
  simp only [Cond.value]
  rw [f1, Option.bind_some]
  refine (congrArg (fun o : Option Nat => (o.bind (fun c => (U.vm.classes[c]?).map fun (k : Class) => match k.kind with | .array _ t => decide (t = FieldType.array ty) && decide (U.vm.findClass ("[" ++ (FieldType.array ty).toString) = some c) | _ => false) == some true)) hi).trans ?_
  simp [hk', hkind, f2]
theorem zOut_to {Xi : zXi} {ao : Nat → Nat} {A B : Nat → Prop} {s U : State} {H : Heap} {locs : List Loc} (h : zOut Xi ao A s s.heap) (hS : va_S A s.heap H locs) (hB : ∀ q, B q → A q) (hW : s.WarmedH U.vm) : zOut Xi ao B U H := by
  have hv : s.vm.Alike U.vm := hW.alike
  obtain ⟨⟨h1, h2, h3⟩, ⟨h4, h5⟩, h6, h7, h8, h9, h10, h11, h12, h13, h14, h15, h16, h17, h18, h19, h20⟩ := h
  refine ⟨⟨(h1.kept (hS.2.1 _ h2 h3)).moved hv, Nat.lt_of_lt_of_le h2 hS.1, fun q => h3 (hB _ q)⟩, ⟨((h4.kept hS.2.1).moved hv).narrow hB, ((h5.kept hS.2.1).moved hv).narrow hB⟩, ((h6.kept hS.2.1).moved hv).narrow hB, fun q hq => (h7 q hq).warm hW, ((h8.kept hS.2.1).moved hv).narrow hB, ((h9.kept hS.2.1).moved hv).narrow hB, ((h10.kept hS.2.1).moved hv).narrow hB, h11.moved hv, h12.moved hv, h13.moved hv, h14.moved hv, fun q hq => (h15 q hq).warmM hW, h16.warmF hW, h17.warmC hW, h18.warmC hW, h19.imp (fun q => ((q.kept hS.2.1).moved hv).narrow hB) (fun q => ((q.kept hS.2.1).moved hv).narrow hB), fun q hq => (h20 q hq).warmD hW⟩
theorem zOut_calling {Xi : zXi} {ao : Nat → Nat} {A : Nat → Prop} {U : State} {g : JFrame} {mk : MethodId} {a : Array Value} (h : zOut Xi ao A U U.heap) : zOut Xi ao A (U.calling g mk a) (U.calling g mk a).heap := by
  have hv : U.vm.Alike (U.calling g mk a).vm := Vm.Alike.refl U.vm
  obtain ⟨⟨h1, h2, h3⟩, ⟨h4, h5⟩, h6, h7, h8, h9, h10, h11, h12, h13, h14, h15, h16, h17, h18, h19, h20⟩ := h
  exact ⟨⟨h1.moved hv, h2, h3⟩, ⟨h4.moved hv, h5.moved hv⟩, h6.moved hv, fun q hq => (h7 q hq).same rfl, h8.moved hv, h9.moved hv, h10.moved hv, h11.moved hv, h12.moved hv, h13.moved hv, h14.moved hv, fun q hq => va_Nw.same rfl rfl (h15 q hq), va_Nw.same rfl rfl h16, va_Nw.same rfl rfl h17, va_Nw.same rfl rfl h18, h19.imp (fun q => q.moved hv) (fun q => q.moved hv), fun q hq => va_Nw.same rfl rfl (h20 q hq)⟩
/-- the world: the heap H at U holds h, by the addresses ad -/
def zpw (D : va_G) (cT : Nat → ClassId) (ao ad : Nat → Nat) (h : zH) (A : Nat → Prop) (U : State) (H : Heap) : Prop :=
  va_K D vwCl (zty cT) U ∧ va_P D vwCl (zw ad cT h) H ∧ va_D A (zw ad cT h) ∧ (∀ i, ad (zB + i) = ao i) ∧ (∀ k j a, h.2.2.2.1 k j = some a → a < h.2.1) ∧ h.2.1 ≤ zB
/-- how a method ends: with an answer, or with an exception of a class -/
abbrev zR : Type := Option Value ⊕ String
def zQ (D : va_G) (cT : Nat → ClassId) (ao : Nat → Nat) (A : Nat → Prop) (n0 : Nat) (ad0 : Nat → Nat) (post : zR → zH → Prop) : Array Value → State → Outcome → State → Prop :=
  fun _ st oc t => (∃ (r : Option Value) (h' : zH) (ad' : Nat → Nat), oc = .returned (r.map (zv ad')) ∧ post (.inl r) h' ∧ n0 ≤ h'.2.1 ∧ zext n0 ad0 ad' ∧ (∀ v, r = some v → zok h'.2.1 v) ∧ zpw D cT ao ad' h' A t t.heap) ∧ va_F A st t
def zX (D : va_G) (cT : Nat → ClassId) (ao : Nat → Nat) (A : Nat → Prop) (n0 : Nat) (ad0 : Nat → Nat) (post : zR → zH → Prop) : String → State → State → Prop :=
  fun E st t => (∃ (h' : zH) (ad' : Nat → Nat), post (.inr E) h' ∧ n0 ≤ h'.2.1 ∧ zext n0 ad0 ad' ∧ zpw D cT ao ad' h' A t t.heap) ∧ va_F A st t
def zlv (ad : Nat → Nat) (Ls : List (Option Value)) : List (Nat × Value) := (List.range Ls.length).filterMap (fun i => (Ls[i]?.join).map (fun v => (i, zv ad v)))
theorem zlv_mem {ad : Nat → Nat} {Ls : List (Option Value)} {q : Nat × Value} : q ∈ zlv ad Ls ↔ ∃ v, Ls[q.1]? = some (some v) ∧ q.2 = zv ad v := by
  simp only [zlv, List.mem_filterMap, List.mem_range]
  constructor
  · rintro ⟨i, hi, h⟩
    cases h1 : Ls[i]? with
    | none => simp [h1] at h
    | some o =>
      cases o with
      | none => simp [h1] at h
      | some v =>
        simp [h1] at h
        subst h
        exact ⟨v, h1, rfl⟩
  · rintro ⟨v, h1, h2⟩
    refine ⟨q.1, (List.getElem?_eq_some_iff.mp h1).1, ?_⟩
    simp [h1, ← h2]
def zL (ad : Nat → Nat) (n : Nat) (Ls : List (Option Value)) (ls : Array Slot) (nL : Nat) : Prop := lv_has ls nL (zlv ad Ls) ∧ ∀ (i : Nat) (v : Value), Ls[i]? = some (some v) → zok n v ∧ v.category = 1
theorem zL_at {ad : Nat → Nat} {n : Nat} {Ls : List (Option Value)} {ls : Array Slot} {nL : Nat} (h : zL ad n Ls ls nL) {i : Nat} {v : Value} (hv : Ls[i]? = some (some v)) : ls[i]? = some (.val (zv ad v)) := h.1.2.2 (i, zv ad v) (zlv_mem.mpr ⟨v, hv, rfl⟩)
theorem zv_cat {ad : Nat → Nat} {v : Value} : (zv ad v).category = v.category := by cases v <;> rfl
