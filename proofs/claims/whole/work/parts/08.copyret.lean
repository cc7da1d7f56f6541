/-! ===== System.arraycopy, answers ===== -/
theorem zS_cat {ad : Nat → Nat} : ∀ {S : List Value}, ((S.map (zv ad)).map fun v => v.category).sum = (S.map fun v => v.category).sum
  | [] => rfl
  | v :: S => by
    simp only [List.map_cons, List.sum_cons, zv_cat]
    rw [zS_cat]
section ZCW
variable {p : Program} {l : Launch} {e : Env} {R : Room} {s : State} {m : MethodId} {args : Array Value} {below : List Frame} {meth : Method} {c : Code} {H : Heap} {locs : List Loc} {cells slots : Nat} {Q : State → Prop}
variable {cc : ByteArray} {pc : Nat} {ls : Array Slot} {rest : List Value} {D : va_G} {cl : List vw_C} {A : Nat → Prop} {a : Nat} {tys : List (ClassId × FieldType)} {ws : va_W}
theorem zz_nn {z : Int32} (hz : ¬ z < 0) : z.toInt = (z.toNatClampNeg : Int) := by
  have h0 : (0 : Int) ≤ z.toInt := by simpa using Int32.le_iff_toInt_le.mp (Int32.not_lt.mp hz)
  show z.toInt = ((z.toInt.toNat : Nat) : Int)
  omega
/-- a copy out of an array of ints that lies outside the world -/
theorem zz_copyt (hexec : p.tables.exec = Jvm.exec) (hb : c.code = cc) (hml : c.maxLocals = ls.size) {own : String} {index : Nat} (hown : s.vm.findClass own = some m.cls) (hlink : (Cond.methodLink own index arraycopyName).before args s = true) (hnat : (Cond.native arraycopyName).before args s = true) (hstat : (Cond.static arraycopyName).before args s = true) (hini : (Cond.initialized "java/lang/System").before args s = true)
    (hK : va_K D cl tys s) (hP : va_P D cl ws H) (hD : va_D A ws) (hS : va_S A s.heap H locs) {b0 n0 : Nat} {f : Nat → Int32} (hX : va_T .int b0 n0 (fun j => .int (f j)) A s s.heap) (q1 t1 : Nat) {c1 : ClassId} {n1 : Nat} {g : Nat → Int32} (ha1 : ws[q1]? = some (a, .inl (c1, n1, .inl g))) (ht1 : tys[t1]? = some (c1, .int))
    {sp dp n : Int32} (h1 : ¬ sp < 0) (h2 : ¬ dp < 0) (h3 : ¬ n < 0) (h4 : sp.toNatClampNeg + n.toNatClampNeg ≤ n0) (h5 : dp.toNatClampNeg + n.toNatClampNeg ≤ n1)
    (hframes : 1 ≤ R.frames) (hlocals : (rest.map fun v => v.category).sum + (nativeFrameWords "java/lang/System" "arraycopy" 5 + 11) ≤ R.locals) (hdg : decode cc pc = .ok (.invokestatic index, 3))
    (kk : ∀ (H1 : Heap) (locs1 : List Loc), va_P D cl (ws.set q1 (a, .inl (c1, n1, .inl (va_cpy f g sp.toNatClampNeg dp.toNatClampNeg n.toNatClampNeg)))) H1 → va_D A (ws.set q1 (a, .inl (c1, n1, .inl (va_cpy f g sp.toNatClampNeg dp.toNatClampNeg n.toNatClampNeg)))) → va_S A s.heap H1 locs1 → W p l e R s m args below meth c H1 locs1 cells slots Q (F0 m (pc + 3) ls rest)) : W p l e R s m args below meth c H locs cells slots Q (F0 m pc ls (.int n :: .int dp :: .ref a :: .int sp :: .ref b0 :: rest)) := by
  intro T hT X
  obtain ⟨scr, k1, k2, k3, k4, -, k5, k7⟩ := hX
  have hc0 : H[b0]? = some scr := by rw [hS.2.1 b0 (Array.getElem?_eq_some_iff.mp k1).1 k7]; exact k1
  have hc1 : H[a]? = some (vp_cell c1 (n1, .inl g)) := hP q1 _ ha1
  obtain ⟨k6, x0, hx0, y0, hy0⟩ := k2
  obtain ⟨-, x1, hx1, y1, hy1⟩ := (hK.2 t1 _ ht1).1 n1 (fun j => .int (g j))
  have ev : ∀ i, i < n.toNatClampNeg → scr.slots.getD (sp.toNatClampNeg + i) .null = .int (f (sp.toNatClampNeg + i)) := fun i hi => by
    rw [Array.getD_eq_getD_getElem?, k5 _ (by omega)]; rfl
  obtain ⟨vm', X', step⟩ := X.arraycopy hexec hown hlink hnat hstat hini (src := b0) (dst := a) (cs := scr) (cd := vp_cell c1 (n1, .inl g)) (srcPos := sp) (destPos := dp) (n := n) (by rw [hT]; exact hc0) (by rw [hT]; exact hc1)
    k6 (fun _ h => by cases h) k3 (fun h => by cases h) hx0 hx1 hy0 hy1 (by simp [refKind]) h1 h2 h3
    (by rw [zz_nn h1, zz_nn h3]; omega)
    (by rw [zz_nn h2, zz_nn h3]; show ¬ _ > ((arrV c1 n1 (fun j => .int (g j))).slots.size : Int); rw [arrV_size]; omega)
    (fun vm₁ _ i hi => ⟨by rw [ev i hi]; rfl, by rw [ev i hi]; exact trivial⟩)
    (g := F0 m pc ls (.int n :: .int dp :: .ref a :: .int sp :: .ref b0 :: rest)) rfl (by rw [hml]) (rest := rest) rfl (by rw [hb]; exact hdg) hframes (by show 2 * 0 + _ + _ ≤ _; omega)
  have e1 : copied scr (vp_cell c1 (n1, .inl g)) sp dp n = vp_cell c1 (n1, .inl (va_cpy f g sp.toNatClampNeg dp.toNatClampNeg n.toNatClampNeg)) := va_copiedX (fun z => .int z) scr c1 f g k5 h4
  rw [e1] at X' step
  have hl : a < H.size := (Array.getElem?_eq_some_iff.mp hc1).1
  have hheap : ((T.setVm vm').setCell a (vp_cell c1 (n1, .inl (va_cpy f g sp.toNatClampNeg dp.toNatClampNeg n.toNatClampNeg)))).heap = H.setIfInBounds a (vp_cell c1 (n1, .inl (va_cpy f g sp.toNatClampNeg dp.toNatClampNeg n.toNatClampNeg))) := by rw [← hT]; rfl
  have oq : ∀ q : Nat, q ≠ a → (H.setIfInBounds a (vp_cell c1 (n1, .inl (va_cpy f g sp.toNatClampNeg dp.toNatClampNeg n.toNatClampNeg))))[q]? = H[q]? := fun q hq => by simp [Array.getElem?_setIfInBounds, Ne.symm hq]
  obtain ⟨t, a1, b1⟩ := kk _ _ (hP.set hD ha1 (show (H.setIfInBounds a _)[a]? = some _ by simp [Array.getElem?_setIfInBounds, hl]) oq) (hD.set ha1) ⟨by simp; exact hS.1, fun q g1 g2 => by rw [oq q (fun e => g2 (by rw [e]; exact hD.2 q1 _ ha1))]; exact hS.2.1 q g1 g2, fun q hq => by
      rcases List.mem_append.mp hq with h | h
      · exact hS.2.2 q h
      · obtain ⟨z, -, hz⟩ := List.mem_map.mp h
        rw [← hz]
        exact hD.2 q1 _ ha1⟩ _ hheap X'
  exact ⟨t, step t a1, b1⟩
end ZCW
section ZCR
variable {l : Launch} {Xi : zXi} {M : zM} {d kc ks pc : Nat} {Ls : List (Option Value)} {S : List Value} {h : zH} {post : zR → zH → Prop}
def zLC (own : String) (idx : Nat) : Prop := Cond.methodLink own idx arraycopyName ∈ zGT ∧ Cond.native arraycopyName ∈ zGT ∧ Cond.static arraycopyName ∈ zGT ∧ Cond.initialized "java/lang/System" ∈ zGT
/-- arraycopy: n ints of a from sp on go to b from dp on -/
theorem zJ_copy {idx a b Na Nb sp dp n : Nat} {x y z : Int32} (lk : zLC M.1 idx) (ha : a < h.2.1) (hsa : h.2.2.1 a = .inr (0, Na)) (hb : b < h.2.1) (hsb : h.2.2.1 b = .inr (0, Nb)) (hx : x = nI sp) (hy : y = nI dp) (hz : z = nI n) (h1 : sp + n ≤ Na) (h2 : dp + n ≤ Nb) (hbig : Na + Nb < 2 ^ 31) (hst : (S.map fun v => v.category).sum ≤ 8) (hdp : 2 ≤ d) (hd : decode M.2.2.1 pc = .ok (.invokestatic idx, 3))
    (kk : zJ l Xi M d kc ks (pc + 3) Ls S (va_up h.1 b (va_cpy (h.1 a) (h.1 b) sp dp n), h.2) post) : zJ l Xi M d kc ks pc Ls (.int z :: .int y :: .ref b :: .int x :: .ref a :: S) h post := by
  intro p e R s m args below meth c H locs cells slots ls D cT ao ad A n0 ad0 E hc hs1 hS hP hn he hl hv
  subst hx hy hz
  have c1 : (nI sp).toNatClampNeg = sp := nI_clamp (by omega)
  have c2 : (nI dp).toNatClampNeg = dp := nI_clamp (by omega)
  have c3 : (nI n).toNatClampNeg = n := nI_clamp (by omega)
  have hcat : ((S.map (zv ad)).map fun v => v.category).sum ≤ 8 := by
    rw [zS_cat]
    exact hst
  have hfr : 1 ≤ R.frames := by
    have := E.2.2.2.2.2.2.2.2.1
    omega
  have hlo : ((S.map (zv ad)).map fun v => v.category).sum + (nativeFrameWords "java/lang/System" "arraycopy" 5 + 11) ≤ R.locals := by
    have h60 := E.2.2.2.2.2.2.2.2.2.1
    have e9 : nativeFrameWords "java/lang/System" "arraycopy" 5 ≤ 60 := by decide +kernel
    omega
  refine va_copyi (D := D) E.1 E.2.1 (by rw [E.2.2.1, hl.1.1]) E.2.2.2.2.2.1 (E.2.2.2.2.2.2.1 _ lk.1) (E.2.2.2.2.2.2.1 _ lk.2.1) (E.2.2.2.2.2.2.1 _ lk.2.2.1) (E.2.2.2.2.2.2.1 _ lk.2.2.2) hP.1 hP.2.1 hP.2.2.1 hS a b 0 0 ((zw_at ha).trans (by rw [zc_i hsa])) ((zw_at hb).trans (by rw [zc_i hsb])) rfl rfl (ty := .int) rfl (nI_pos (by omega)) (nI_pos (by omega)) (nI_pos (by omega)) (by rw [c1, c3]; exact h1) (by rw [c2, c3]; exact h2) (fun i _ => rfl) hfr hlo hd (fun H1 locs1 k1 k2 k3 => ?_)
  rw [c1, c2, c3] at k1 k2
  exact kk p e R s m args below meth c H1 locs1 cells slots ls D cT ao ad A n0 ad0 E hc hs1 k3 (zpw_put (h' := (va_up h.1 b (va_cpy (h.1 a) (h.1 b) sp dp n), h.2)) hP hb rfl ((zc_i (h := (va_up h.1 b (va_cpy (h.1 a) (h.1 b) sp dp n), h.2)) hsb).trans (by simp [va_up])) (fun j hj => zc_up hj) hP.2.2.2.2.1 k1 k2) hn he hl (fun v q => hv v (by simp [q]))
theorem zJ_copyLW {idx b Nb n : Nat} {z : Int32} (lk : zLC M.1 idx) (hb : b < h.2.1) (hsb : h.2.2.1 b = .inr (0, Nb)) (hz : z = nI n) (h1 : n ≤ 15) (h2 : n ≤ Nb) (hst : (S.map fun v => v.category).sum ≤ 8) (hdp : 2 ≤ d) (hd : decode M.2.2.1 pc = .ok (.invokestatic idx, 3))
    (kk : zJ l Xi M d kc ks (pc + 3) Ls S (va_up h.1 b (va_cpy zLW (h.1 b) 0 0 n), h.2) post) : zJ l Xi M d kc ks pc Ls (.int z :: .int 0 :: .ref b :: .int 0 :: .ref (zB + 1) :: S) h post := by
  intro p e R s m args below meth c H locs cells slots ls D cT ao ad A n0 ad0 E hc hs1 hS hP hn he hl hv
  subst hz
  have c3 : (nI n).toNatClampNeg = n := nI_clamp (by omega)
  have hcat : ((S.map (zv ad)).map fun v => v.category).sum ≤ 8 := by
    rw [zS_cat]
    exact hst
  have hfr : 1 ≤ R.frames := by
    have := E.2.2.2.2.2.2.2.2.1
    omega
  have hlo : ((S.map (zv ad)).map fun v => v.category).sum + (nativeFrameWords "java/lang/System" "arraycopy" 5 + 11) ≤ R.locals := by
    have h60 := E.2.2.2.2.2.2.2.2.2.1
    have e9 : nativeFrameWords "java/lang/System" "arraycopy" 5 ≤ 60 := by decide +kernel
    omega
  show W p l e R s m args below meth c H locs cells slots _ (F0 m pc ls (.int (nI n) :: .int 0 :: .ref (ad b) :: .int 0 :: .ref (ad (zB + 1)) :: S.map (zv ad)))
  rw [hP.2.2.2.1 1]
  refine zz_copyt (D := D) E.1 E.2.1 (by rw [E.2.2.1, hl.1.1]) E.2.2.2.2.2.1 (E.2.2.2.2.2.2.1 _ lk.1) (E.2.2.2.2.2.2.1 _ lk.2.1) (E.2.2.2.2.2.2.1 _ lk.2.2.1) (E.2.2.2.2.2.2.1 _ lk.2.2.2) hP.1 hP.2.1 hP.2.2.1 hS E.2.2.2.2.2.2.2.2.2.2.2.1.2.1.2 b 0 ((zw_at hb).trans (by rw [zc_i hsb])) rfl (by decide) (by decide) (nI_pos (by omega)) (by rw [c3]; exact (Nat.zero_add n).symm ▸ h1) (by rw [c3]; exact (Nat.zero_add n).symm ▸ h2) hfr hlo hd (fun H1 locs1 k1 k2 k3 => ?_)
  rw [c3] at k1 k2
  exact kk p e R s m args below meth c H1 locs1 cells slots ls D cT ao ad A n0 ad0 E hc hs1 k3 (zpw_put (h' := (va_up h.1 b (va_cpy zLW (h.1 b) 0 0 n), h.2)) hP hb rfl ((zc_i (h := (va_up h.1 b (va_cpy zLW (h.1 b) 0 0 n), h.2)) hsb).trans (by simp [va_up])) (fun j hj => zc_up hj) hP.2.2.2.2.1 k1 k2) hn he hl (fun v q => hv v (by simp [q]))
/-- answers -/
theorem zJ_iret {x : Int32} (hr : M.2.2.2.2.1 = some .int) (hd : decode M.2.2.1 pc = .ok (.ireturn, 1)) (hp : post (.inl (some (.int x))) h) : zJ l Xi M d kc ks pc Ls [.int x] h post := by
  intro p e R s m args below meth c H locs cells slots ls D cT ao ad A n0 ad0 E hc hs1 hS hP hn he hl hv
  have hlocks := E.2.2.2.2.1
  refine vx_ret (W.widen (k := R.cells) (n := R.slots) (by omega) (by omega) (W.iret (v := x) E.1 E.2.1 (E.2.2.2.1.trans hr) (fun t ht hW => ⟨⟨some (.int x), h, ad, rfl, hp, hn, he, (fun v q => by cases q; exact trivial), va_K.moved hW.alike hP.1, by rw [ht]; exact hP.2.1, hP.2.2⟩, hS.F ht⟩) hS.2.2 hd))
theorem zJ_zret {x : Int32} (hr : M.2.2.2.2.1 = some .boolean) (hx : x = 0 ∨ x = 1) (hd : decode M.2.2.1 pc = .ok (.ireturn, 1)) (hp : post (.inl (some (.int x))) h) : zJ l Xi M d kc ks pc Ls [.int x] h post := by
  intro p e R s m args below meth c H locs cells slots ls D cT ao ad A n0 ad0 E hc hs1 hS hP hn he hl hv
  have hlocks := E.2.2.2.2.1
  refine vx_ret (W.widen (k := R.cells) (n := R.slots) (by omega) (by omega) (W.zret (v := x) E.1 E.2.1 (E.2.2.2.1.trans hr) (by rcases hx with rfl | rfl <;> rfl) (fun t ht hW => ⟨⟨some (.int x), h, ad, rfl, hp, hn, he, (fun v q => by cases q; exact trivial), va_K.moved hW.alike hP.1, by rw [ht]; exact hP.2.1, hP.2.2⟩, hS.F ht⟩) hS.2.2 hd))
theorem zJ_vret (hr : M.2.2.2.2.1 = none) (hd : decode M.2.2.1 pc = .ok (.return_, 1)) (hp : post (.inl none) h) : zJ l Xi M d kc ks pc Ls [] h post := by
  intro p e R s m args below meth c H locs cells slots ls D cT ao ad A n0 ad0 E hc hs1 hS hP hn he hl hv
  have hlocks := E.2.2.2.2.1
  refine vx_ret (W.widen (k := R.cells) (n := R.slots) (by omega) (by omega) (W.vret E.1 E.2.1 (E.2.2.2.1.trans hr) (fun t ht hW => ⟨⟨none, h, ad, rfl, hp, hn, he, (fun v q => by cases q), va_K.moved hW.alike hP.1, by rw [ht]; exact hP.2.1, hP.2.2⟩, hS.F ht⟩) hS.2.2 hd))
end ZCR
