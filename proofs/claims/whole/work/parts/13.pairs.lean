/-! ===== the steps over a heap (I, g): ints I, the rest g ===== -/
abbrev zG : Type := Nat × (Nat → zS) × (Nat → Nat → Option Nat) × (Nat → Nat → Int64)
abbrev zI : Type := Nat → Nat → Int32
def zOb (g : zG) (a ci : Nat) : Prop := a < g.1 ∧ g.2.1 a = .inl ci
def zAr (g : zG) (a N : Nat) : Prop := a < g.1 ∧ g.2.1 a = .inr (0, N)
def zBo (g : zG) (a N : Nat) : Prop := a < g.1 ∧ g.2.1 a = .inr (4, N)
def zRf (g : zG) (a k b : Nat) : Prop := g.2.2.1 a k = some b
/-- an object and its arrays of ints: field, how far behind, length -/
def zK (g : zG) (b ci : Nat) (fs : List (Nat × Nat × Nat)) : Prop := zOb g b ci ∧ ∀ (k : Nat) (q : Nat × Nat × Nat), fs[k]? = some q → zRf g b q.1 (b + q.2.1) ∧ zAr g (b + q.2.1) q.2.2
/-- a grid: an array of rows of ints, which lie behind it -/
def zGr (g : zG) (a N K : Nat) : Prop := a < g.1 ∧ g.2.1 a = .inr (3, N) ∧ ∀ i, i < N → zRf g a i (a + 1 + i) ∧ zAr g (a + 1 + i) K
def zD (l : Launch) (Xi : zXi) (M : zM) (d : Nat) (av : List Value) (I : zI) (g : zG) (r : Option Value) (I' : zI) : Prop := zC l Xi M d 0 0 av (I, g) (fun r' h' => r' = .inl r ∧ h' = (I', g))
theorem zav_0 {n : Nat} : ∀ v ∈ ([] : List Value), zok n v ∧ v.category = 1 := fun v h => by cases h
theorem zav_r {n b : Nat} {vs : List Value} (h : b < n) (t : ∀ v ∈ vs, zok n v ∧ v.category = 1) : ∀ v ∈ (Value.ref b :: vs), zok n v ∧ v.category = 1 := fun v hv => by
  rcases List.mem_cons.mp hv with rfl | q
  · exact ⟨Or.inl h, rfl⟩
  · exact t v q
theorem zav_k {n b : Nat} {vs : List Value} (h : zB ≤ b) (t : ∀ v ∈ vs, zok n v ∧ v.category = 1) : ∀ v ∈ (Value.ref b :: vs), zok n v ∧ v.category = 1 := fun v hv => by
  rcases List.mem_cons.mp hv with rfl | q
  · exact ⟨Or.inr h, rfl⟩
  · exact t v q
theorem zav_i {n : Nat} {x : Int32} {vs : List Value} (t : ∀ v ∈ vs, zok n v ∧ v.category = 1) : ∀ v ∈ (Value.int x :: vs), zok n v ∧ v.category = 1 := fun v hv => by
  rcases List.mem_cons.mp hv with rfl | q
  · exact ⟨trivial, rfl⟩
  · exact t v q
section ZP
variable {l : Launch} {Xi : zXi} {M : zM} {d kc ks pc : Nat} {Ls : List (Option Value)} {S : List Value} {I : zI} {g : zG} {post : zR → zH → Prop}
theorem zP_geti {idx ci k a : Nat} (lk : zLF M.1 idx ci k) (ho : zOb g a ci) (hb : (zfl ci)[k]? = some true) (hd : decode M.2.2.1 pc = .ok (.getfield idx, 3)) (kk : zJ l Xi M d kc ks (pc + 3) Ls (.int (I a k) :: S) (I, g) post) : zJ l Xi M d kc ks pc Ls (.ref a :: S) (I, g) post := zJ_geti (h := (I, g)) lk ho.1 ho.2 hb hd kk
theorem zP_getr {idx ci k a b : Nat} (lk : zLF M.1 idx ci k) (ho : zOb g a ci) (hb : (zfl ci)[k]? = some false) (hj : zRf g a k b) (hd : decode M.2.2.1 pc = .ok (.getfield idx, 3)) (kk : zJ l Xi M d kc ks (pc + 3) Ls (.ref b :: S) (I, g) post) : zJ l Xi M d kc ks pc Ls (.ref a :: S) (I, g) post := zJ_getr (h := (I, g)) lk ho.1 ho.2 hb hj hd kk
theorem zP_puti {idx ci k a : Nat} {x : Int32} (lk : zLF M.1 idx ci k) (ho : zOb g a ci) (hb : (zfl ci)[k]? = some true) (hd : decode M.2.2.1 pc = .ok (.putfield idx, 3)) (kk : zJ l Xi M d kc ks (pc + 3) Ls S (zup I a k x, g) post) : zJ l Xi M d kc ks pc Ls (.int x :: .ref a :: S) (I, g) post := zJ_puti (h := (I, g)) lk ho.1 ho.2 hb hd kk
theorem zP_iald {a N : Nat} {i : Int32} (ha : zAr g a N) (hin : vp_in i N) (hd : decode M.2.2.1 pc = .ok (.iaload, 1)) (kk : zJ l Xi M d kc ks (pc + 1) Ls (.int (I a i.toNatClampNeg) :: S) (I, g) post) : zJ l Xi M d kc ks pc Ls (.int i :: .ref a :: S) (I, g) post := zJ_iald (h := (I, g)) ha.1 ha.2 hin hd kk
theorem zP_iast {a N : Nat} {i x : Int32} (ha : zAr g a N) (hin : vp_in i N) (hd : decode M.2.2.1 pc = .ok (.iastore, 1)) (kk : zJ l Xi M d kc ks (pc + 1) Ls S (zup I a i.toNatClampNeg x, g) post) : zJ l Xi M d kc ks pc Ls (.int x :: .int i :: .ref a :: S) (I, g) post := zJ_iast (h := (I, g)) ha.1 ha.2 hin hd kk
theorem zP_zald {a N : Nat} {i : Int32} (ha : zBo g a N) (hin : vp_in i N) (hd : decode M.2.2.1 pc = .ok (.baload, 1)) (kk : zJ l Xi M d kc ks (pc + 1) Ls (.int (I a i.toNatClampNeg) :: S) (I, g) post) : zJ l Xi M d kc ks pc Ls (.int i :: .ref a :: S) (I, g) post := zJ_zald (h := (I, g)) ha.1 ha.2 hin hd kk
theorem zP_zast {a N : Nat} {i x : Int32} (ha : zBo g a N) (hin : vp_in i N) (hx : x = 0 ∨ x = 1) (hd : decode M.2.2.1 pc = .ok (.bastore, 1)) (kk : zJ l Xi M d kc ks (pc + 1) Ls S (zup I a i.toNatClampNeg x, g) post) : zJ l Xi M d kc ks pc Ls (.int x :: .int i :: .ref a :: S) (I, g) post := zJ_zast (h := (I, g)) ha.1 ha.2 hin hx hd kk
theorem zP_alen {a N : Nat} (ha : zAr g a N) (hd : decode M.2.2.1 pc = .ok (.arraylength, 1)) (kk : zJ l Xi M d kc ks (pc + 1) Ls (.int (nI N) :: S) (I, g) post) : zJ l Xi M d kc ks pc Ls (.ref a :: S) (I, g) post := zJ_alen (h := (I, g)) (t := 0) (by decide) ha.1 ha.2 hd kk
/-- a row of a grid -/
theorem zP_row {a N K : Nat} {i : Int32} (ha : zGr g a N K) (hin : vp_in i N) (hd : decode M.2.2.1 pc = .ok (.aaload, 1)) (kk : zJ l Xi M d kc ks (pc + 1) Ls (.ref (a + 1 + i.toNatClampNeg) :: S) (I, g) post) : zJ l Xi M d kc ks pc Ls (.int i :: .ref a :: S) (I, g) post := zJ_aald (h := (I, g)) (t := 1) (by decide) ha.1 ha.2.1 hin (ha.2.2 _ (Nat.not_le.mp fun q => hin (Or.inr q))).1 hd kk
theorem zP_copy {idx a b Na Nb sp dp n : Nat} {x y z : Int32} (lk : zLC M.1 idx) (ha : zAr g a Na) (hb : zAr g b Nb) (hx : x = nI sp) (hy : y = nI dp) (hz : z = nI n) (h1 : sp + n ≤ Na) (h2 : dp + n ≤ Nb) (hbig : Na + Nb < 2 ^ 31) (hst : (S.map fun v => v.category).sum ≤ 8) (hdp : 2 ≤ d) (hd : decode M.2.2.1 pc = .ok (.invokestatic idx, 3))
    (kk : zJ l Xi M d kc ks (pc + 3) Ls S (va_up I b (va_cpy (I a) (I b) sp dp n), g) post) : zJ l Xi M d kc ks pc Ls (.int z :: .int y :: .ref b :: .int x :: .ref a :: S) (I, g) post := zJ_copy (h := (I, g)) lk ha.1 ha.2 hb.1 hb.2 hx hy hz h1 h2 hbig hst hdp hd kk
theorem zP_callV {M' : zM} {idx ci b d' : Nat} {r : Option Value} {I' : zI} (As rest : List Value) (lk : zLV M.1 idx M' ci As.length) (hC : zD l Xi M' d' (.ref b :: As) I g r I') (ho : zOb g b ci) (hst : S = As.reverse ++ .ref b :: rest) (hd1 : d' + 1 ≤ d) (hcat : (rest.map fun v => v.category).sum ≤ 8) (hM : M.2.2.2.2.2 = []) (hd : decode M.2.2.1 pc = .ok (.invokevirtual idx, 3))
    (kk : zJ l Xi M d kc ks (pc + 3) Ls (r.toList ++ rest) (I', g) post) : zJ l Xi M d kc ks pc Ls S (I, g) post :=
  zJ_callV (h := (I, g)) (kc' := 0) (ks' := 0) As rest lk hC ho.1 ho.2 hst hd1 hcat hM hd (fun E h1 q _ => by cases q.1) (fun r' h1 q _ => by obtain ⟨q1, q2⟩ := q; cases q1; rw [q2]; exact kk)
theorem zP_callS {M' : zM} {idx d' : Nat} {r : Option Value} {I' : zI} (As rest : List Value) (lk : zLS M.1 idx M' As.length) (hC : zD l Xi M' d' As I g r I') (hst : S = As.reverse ++ rest) (hd1 : d' + 1 ≤ d) (hcat : (rest.map fun v => v.category).sum ≤ 8) (hM : M.2.2.2.2.2 = []) (hd : decode M.2.2.1 pc = .ok (.invokestatic idx, 3))
    (kk : zJ l Xi M d kc ks (pc + 3) Ls (r.toList ++ rest) (I', g) post) : zJ l Xi M d kc ks pc Ls S (I, g) post :=
  zJ_callS (h := (I, g)) (kc' := 0) (ks' := 0) As rest lk hC hst hd1 hcat hM hd (fun E h1 q _ => by cases q.1) (fun r' h1 q _ => by obtain ⟨q1, q2⟩ := q; cases q1; rw [q2]; exact kk)
theorem zP_callVi {M' : zM} {idx ci b d' : Nat} {x : Int32} {I' : zI} (As rest : List Value) (lk : zLV M.1 idx M' ci As.length) (hC : zD l Xi M' d' (.ref b :: As) I g (some (.int x)) I') (ho : zOb g b ci) (hst : S = As.reverse ++ .ref b :: rest) (hd1 : d' + 1 ≤ d) (hcat : (rest.map fun v => v.category).sum ≤ 8) (hM : M.2.2.2.2.2 = []) (hd : decode M.2.2.1 pc = .ok (.invokevirtual idx, 3))
    (kk : zJ l Xi M d kc ks (pc + 3) Ls (.int x :: rest) (I', g) post) : zJ l Xi M d kc ks pc Ls S (I, g) post := zP_callV As rest lk hC ho hst hd1 hcat hM hd kk
theorem zP_callVv {M' : zM} {idx ci b d' : Nat} {I' : zI} (As rest : List Value) (lk : zLV M.1 idx M' ci As.length) (hC : zD l Xi M' d' (.ref b :: As) I g none I') (ho : zOb g b ci) (hst : S = As.reverse ++ .ref b :: rest) (hd1 : d' + 1 ≤ d) (hcat : (rest.map fun v => v.category).sum ≤ 8) (hM : M.2.2.2.2.2 = []) (hd : decode M.2.2.1 pc = .ok (.invokevirtual idx, 3))
    (kk : zJ l Xi M d kc ks (pc + 3) Ls rest (I', g) post) : zJ l Xi M d kc ks pc Ls S (I, g) post := zP_callV As rest lk hC ho hst hd1 hcat hM hd kk
theorem zP_callSi {M' : zM} {idx d' : Nat} {x : Int32} {I' : zI} (As rest : List Value) (lk : zLS M.1 idx M' As.length) (hC : zD l Xi M' d' As I g (some (.int x)) I') (hst : S = As.reverse ++ rest) (hd1 : d' + 1 ≤ d) (hcat : (rest.map fun v => v.category).sum ≤ 8) (hM : M.2.2.2.2.2 = []) (hd : decode M.2.2.1 pc = .ok (.invokestatic idx, 3))
    (kk : zJ l Xi M d kc ks (pc + 3) Ls (.int x :: rest) (I', g) post) : zJ l Xi M d kc ks pc Ls S (I, g) post := zP_callS As rest lk hC hst hd1 hcat hM hd kk
theorem zP_callSv {M' : zM} {idx d' : Nat} {I' : zI} (As rest : List Value) (lk : zLS M.1 idx M' As.length) (hC : zD l Xi M' d' As I g none I') (hst : S = As.reverse ++ rest) (hd1 : d' + 1 ≤ d) (hcat : (rest.map fun v => v.category).sum ≤ 8) (hM : M.2.2.2.2.2 = []) (hd : decode M.2.2.1 pc = .ok (.invokestatic idx, 3))
    (kk : zJ l Xi M d kc ks (pc + 3) Ls rest (I', g) post) : zJ l Xi M d kc ks pc Ls S (I, g) post := zP_callS As rest lk hC hst hd1 hcat hM hd kk
end ZP
abbrev zLt_Board : List (Nat × Nat × Nat) := [(4, 1, 6), (5, 2, 6), (6, 3, 6), (7, 4, 24), (8, 5, 64), (9, 6, 64), (10, 7, 64), (11, 8, 256)]
abbrev zLt_Book : List (Nat × Nat × Nat) := [(1, 1, 8), (2, 2, 8)]
abbrev zLt_Law : List (Nat × Nat × Nat) := [(0, 1, 8), (1, 2, 150), (2, 3, 32)]
abbrev zLt_State : List (Nat × Nat × Nat) := [(0, 1, 384), (1, 2, 64), (2, 3, 64), (3, 4, 64), (4, 5, 6)]
abbrev zLt_Heap : List (Nat × Nat × Nat) := [(0, 1, 320)]
