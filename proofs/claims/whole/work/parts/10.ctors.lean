/-! ===== constructors, throws ===== -/
def zLR (own : String) (idx ci k : Nat) : Prop := ∃ (C : String) (T : u_T) (N : Nat) (ty : FieldType), zCl ci C T N ∧ k < N ∧ Cond.fieldLink own idx (T k).1 (T k).2.1 (T k).2.2.1 ∈ zGT ∧ (T k).2.2.2 = true ∧ (T k).1 = own ∧ parseFieldDescriptor (T k).2.2.1 = some ty ∧ ∀ a : Nat, narrow ty (.ref a) = .ref a ∧ fits ty (.ref a) = true
def zupJ (h : zH) (a k : Nat) (r : Option Nat) : zH := (h.1, h.2.1, h.2.2.1, va_up h.2.2.2.1 a (va_up (h.2.2.2.1 a) k r), h.2.2.2.2)
theorem zfs_setr {ad : Nat → Nat} {h : zH} {a k b : Nat} {bs : List Bool} (hb : bs[k]? = some false) : (zfs ad h a bs).set k (.ref (ad b)) = zfs ad (zupJ h a k (some b)) a bs := by
  apply List.ext_getElem?
  intro j
  have hlt : k < bs.length := (List.getElem?_eq_some_iff.mp hb).1
  by_cases e : j = k
  · subst e
    rw [List.getElem?_set_self (by simpa [zfs] using hlt), zfs_at hb]
    simp [zupJ, va_up, va_rf]
  · rw [List.getElem?_set_ne (Ne.symm e)]
    simp only [zfs, List.getElem?_mapIdx]
    congr 1
    funext b
    simp [zupJ, va_up, e]
section ZI
variable {l : Launch} {Xi : zXi} {M : zM} {d kc ks pc : Nat} {Ls : List (Option Value)} {S : List Value} {h : zH} {post : zR → zH → Prop}
theorem zJ_putr {idx ci k a b : Nat} (lk : zLR M.1 idx ci k) (hi : M.2.1.name = "<init>") (ha : a < h.2.1) (hs : h.2.2.1 a = .inl ci) (hbb : b < h.2.1) (hb : (zfl ci)[k]? = some false) (hd : decode M.2.2.1 pc = .ok (.putfield idx, 3)) (kk : zJ l Xi M d kc ks (pc + 3) Ls S (zupJ h a k (some b)) post) : zJ l Xi M d kc ks pc Ls (.ref b :: .ref a :: S) h post := by
  intro p e R s m args below meth c H locs cells slots ls D cT ao ad A n0 ad0 E hc hs1 hS hP hn he hl hv
  obtain ⟨C, T, N, ty, hcl, hk, hw, hfin, hdecl, hpar, hnf⟩ := lk
  obtain ⟨ty0, hty, -⟩ := hcl.2.2.1
  have hlen : k < (zfs ad h a (zfl ci)).length := by simpa [zfs, hcl.2.2.2.2.1] using hk
  refine va_putF (D := D) E.1 E.2.1 E.2.2.2.2.2.2.1 hcl.2.1 ty0 hty hcl.2.2.2.1 E.2.2.2.2.2.1 hP.1 hP.2.1 hP.2.2.1 hS a ((zw_at ha).trans (by rw [zc_o hs])) hcl.1 k hk (E.2.2.2.2.2.2.1 _ hw) (fun _ q => q) hfin (E.2.2.2.2.2.2.2.2.2.2.2.2.2 hi) hdecl (ty := ty) hpar (hnf _).1 (hnf _).2 hlen hd (fun H1 locs1 h1 h2 h3 => ?_)
  refine kk p e R s m args below meth c H1 locs1 cells slots ls D cT ao ad A n0 ad0 E hc hs1 h3 (zpw_put (h' := zupJ h a k (some b)) hP ha rfl ((zc_o (h := zupJ h a k (some b)) hs).trans (by rw [← zfs_setr hb]; rfl)) (fun j hj => zc_upJ hj) ?_ h1 h2) hn he hl (fun v q => hv v (List.mem_cons_of_mem _ (List.mem_cons_of_mem _ q)))
  intro k2 j x hx
  by_cases e1 : k2 = a
  · subst e1
    by_cases e2 : j = k
    · simp [zupJ, va_up, e2] at hx
      subst hx
      exact hbb
    · simp [zupJ, va_up, e2] at hx
      exact hP.2.2.2.2.1 _ _ _ hx
  · simp [zupJ, va_up, e1] at hx
    exact hP.2.2.2.2.1 _ _ _ hx
def zLO (own : String) (idx : Nat) : Prop := Cond.methodLink own idx Lib.objectInit ∈ zGT ∧ Cond.instanceMethod Lib.objectInit ∈ zGT ∧ Cond.code Lib.objectInit ⟨#[0xb1]⟩ 1 none ∈ zGT
theorem zJ_objInit {idx a : Nat} (lk : zLO M.1 idx) (hst : (S.map fun v => v.category).sum ≤ 8) (hdp : 1 ≤ d) (hd : decode M.2.2.1 pc = .ok (.invokespecial idx, 3)) (kk : zJ l Xi M d kc ks (pc + 3) Ls S h post) : zJ l Xi M d kc ks pc Ls (.ref a :: S) h post := by
  intro p e R s m args below meth c H locs cells slots ls D cT ao ad A n0 ad0 E hc hs1 hS hP hn he hl hv
  have hts := E.2.2.2.2.2.2.1
  have K := kk p e R s m args below meth c H locs cells slots ls D cT ao ad A n0 ad0 E hc hs1 hS hP hn he hl (fun v q => hv v (List.mem_cons_of_mem _ q))
  have h1 := E.2.2.2.2.2.2.2.2.1
  have h2 := E.2.2.2.2.2.2.2.2.2.1
  refine W.objInit (rest := S.map (zv ad)) E.1 E.2.1 E.2.2.2.2.2.1 (hts _ lk.1) (hts _ lk.2.1) (hts _ lk.2.2) rfl (by rw [E.2.2.1]; exact hl.1.1) rfl hd (by omega) ?_ K
  have h3 : 2 * (F0 m pc ls (S.map (zv ad))).monitorRoom + ((S.map (zv ad)).map fun v => v.category).sum ≤ 8 := lv_room (by rw [zS_cat]; exact hst)
  have h4 : 2 * (F0 m pc ls ((Value.ref a :: S).map (zv ad))).monitorRoom + ((S.map (zv ad)).map fun v => v.category).sum ≤ 8 := h3
  omega
theorem zMet {M' : zM} {d' kc' ks' : Nat} {av : List Value} {post1 : zR → zH → Prop} (hC : zC l Xi M' d' kc' ks' av h post1) (hnx : ∀ E h1, ¬ post1 (.inr E) h1) (D : va_G) (cT : Nat → ClassId) (ao ad : Nat → Nat) (sz : Nat) : Met l M'.2.1 (zws M') (zrm d' kc' ks') (zPc Xi D cT ao ad h sz av) (zQ D cT ao (va_A (zw ad cT h) sz) h.2.1 ad post1) kc' ks' (va_A (zw ad cT h) sz) := by
  intro p e ha hc hk s m args below hf happ hP hK
  obtain ⟨n, o, h1, h2, h3, h4⟩ := hC D cT ao ad sz p e ha hc hk s m args below hf happ hP hK
  rcases h4 with h4 | ⟨q, -, E1, ce, L, ⟨⟨h', ad', hp, -⟩, -⟩, -⟩
  · exact ⟨n, o, h1, h2, h3, h4⟩
  · exact absurd hp (hnx _ _)
theorem zJ_afterI {D : va_G} {cT : Nat → ClassId} {ao ad : Nat → Nat} {A : Nat → Prop} {kc' ks' n0 : Nat} {ad0 : Nat → Nat} {rest : List Value} {post1 : zR → zH → Prop} {p : Program} {e : Env} {R : Room} {s : State} {m : MethodId} {args : Array Value} {below : List Frame} {meth : Method} {c : Code} {H : Heap} {locs : List Loc} {cells slots : Nat} {ls : Array Slot} {st0 : List Value} {a : Array Value}
    (E : zE l Xi M d p R s m args meth c ao A) (hc : cells + (kc + kc') ≤ R.cells) (hs1 : slots + (ks + ks') ≤ R.slots) (hS : va_S A s.heap H locs) (hP : zpw D cT ao ad h A s H) (hn : n0 ≤ h.2.1) (he : zext n0 ad0 ad) (hl : zL ad h.2.1 Ls ls M.2.2.2.1) (hrest : ∀ v ∈ rest, zok h.2.1 v) (hF : ∀ q, va_A (zw ad cT h) H.size q → A q)
    (hr : va_Run p l e R s m args below meth c H locs cells slots kc' ks' (F0 m pc ls st0) (rest.map (zv ad)) (zQ D cT ao (va_A (zw ad cT h) H.size) h.2.1 ad post1 a) (va_A (zw ad cT h) H.size))
    (kk : ∀ r h1, post1 (.inl r) h1 → h.2.1 ≤ h1.2.1 → zJ l Xi M d kc ks (pc + 3) Ls (r.toList ++ rest) h1 post) : W p l e R s m args below meth c H locs cells slots (vx_MQ below (zQ D cT ao A n0 ad0 post) (zX D cT ao A n0 ad0 post) args s R.cells R.slots A) (F0 m pc ls st0) := by
  refine z_callR (D := D) (cT := cT) (ao := ao) (ad := ad) (n1 := h.2.1) (post1 := post1) (A1 := va_A (zw ad cT h) H.size) hr hS (fun q _ hq => hF q hq) hF ?_
  intro r h' ad' t H1 locs1 ht hvm hp hn1 he1 hz hP1 hS1
  have K := kk r h' hp hn1 p e R s m args below meth c H1 locs1 (cells + kc') (slots + ks') ls D cT ao ad' A n0 ad0 E (by omega) (by omega) hS1 (zpost hF hvm hP1) (Nat.le_trans hn hn1) (zext_trans he hn he1) (zL_ext he1 hn1 hl) (fun v q => by
    rcases List.mem_append.mp q with q | q
    · cases r with
      | none => cases q
      | some w => rw [List.mem_singleton.mp q]; exact hz w rfl
    · exact zok_mono hn1 (hrest v q))
  rw [List.map_append, zS_ext he1 hrest] at K
  have e9 : (r.toList).map (zv ad') = (r.map (zv ad')).toList := by cases r <;> rfl
  rw [e9] at K
  exact K
def zLI (own : String) (idx : Nat) (M' : zM) (n : Nat) : Prop := zLB own idx M' n ∧ M'.2.2.2.2.1 = none ∧ M'.2.1.name = "<init>" ∧ Cond.instanceMethod M'.2.1 ∈ zGT
theorem zJ_callI {M' : zM} {idx b d' kc' ks' : Nat} (As rest : List Value) {post1 : zR → zH → Prop} (lk : zLI M.1 idx M' As.length) (hC : zC l Xi M' d' kc' ks' (.ref b :: As) h post1) (hnx : ∀ E h1, ¬ post1 (.inr E) h1) (hst : S = As.reverse ++ .ref b :: rest) (hd1 : d' + 1 ≤ d) (hcat : (rest.map fun v => v.category).sum ≤ 8) (hd : decode M.2.2.1 pc = .ok (.invokespecial idx, 3))
    (kk : ∀ r h1, post1 (.inl r) h1 → h.2.1 ≤ h1.2.1 → zJ l Xi M d kc ks (pc + 3) Ls (r.toList ++ rest) h1 post) : zJ l Xi M d (kc + kc') (ks + ks') pc Ls S h post := by
  intro p e R s m args below meth c H locs cells slots ls D cT ao ad A n0 ad0 E hc hs1 hS hP hn he hl hv
  subst hst
  obtain ⟨lb, hret, hnm, hin⟩ := lk
  have hts := E.2.2.2.2.2.2.1
  obtain ⟨hF, hpre⟩ := zpre E.2.2.2.2.2.2.2.2.2.2.1 E.2.2.2.2.2.2.2.2.2.2.2.1 hS hP
  have hrest : ∀ v ∈ rest, zok h.2.1 v := fun v q => hv v (List.mem_append_right _ (List.mem_cons_of_mem _ q))
  have hcb := zLB_call (kc' := kc') (ks' := ks') lb hts hd1 E.2.2.2.2.2.2.2.2.1 E.2.2.2.2.2.2.2.2.2.1
  rw [hret] at hcb
  exact zJ_afterI E hc hs1 hS hP hn he hl hrest hF (va_runI (As := As.map (zv ad)) (rest := rest.map (zv ad)) (b := ad b) (Ts := zGT) ⟨E.1, E.2.1, E.2.2.1, E.2.2.2.2.2.1, hts⟩ (zMet hC hnx D cT ao ad H.size) ⟨hcb, hnm, hts _ hin⟩ ⟨zPc_blind, fun U hU hW => hpre U hU hW (.ref b :: As)⟩ rfl (by simp) hl.1.1 (by simp [zv]) (lv_room (by rw [zS_cat]; exact hcat)) hd ⟨by omega, by omega⟩) kk
/-- a private constructor of a nest mate, without arguments -/
def zLIN (own : String) (idx : Nat) (M' : zM) : Prop := (own, idx, M'.2.1.cls) ∈ znest ∧ M'.2.1 = ⟨M'.2.1.cls, "<init>", "()V"⟩ ∧ M'.2.2.2.2 = (none, []) ∧ Cond.initialized M'.2.1.cls ∈ zGT ∧ zcode M' ∈ zGT ∧ Cond.instanceMethod M'.2.1 ∈ zGT ∧ (M'.2.1.cls ≠ "java/lang/invoke/MethodHandle" ∧ M'.2.1.cls ≠ "java/lang/invoke/VarHandle" ∧ (parseMethodDescriptor M'.2.1.desc).map (fun d => d.parameters.length) = some 0) ∧ M'.2.2.2.1 ≤ 41
theorem zJ_callIN {M' : zM} {idx b d' kc' ks' : Nat} (rest : List Value) {post1 : zR → zH → Prop} (lk : zLIN M.1 idx M') (hC : zC l Xi M' d' kc' ks' [.ref b] h post1) (hnx : ∀ E h1, ¬ post1 (.inr E) h1) (hst : S = .ref b :: rest) (hd1 : d' + 1 ≤ d) (hcat : (rest.map fun v => v.category).sum ≤ 8) (hd : decode M.2.2.1 pc = .ok (.invokespecial idx, 3))
    (kk : ∀ r h1, post1 (.inl r) h1 → h.2.1 ≤ h1.2.1 → zJ l Xi M d kc ks (pc + 3) Ls (r.toList ++ rest) h1 post) : zJ l Xi M d (kc + kc') (ks + ks') pc Ls S h post := by
  intro p e R s m args below meth c H locs cells slots ls D cT ao ad A n0 ad0 E hc hs1 hS hP hn he hl hv
  subst hst
  obtain ⟨hne, hy, hret, hini, hcode, hin, hdd, h41⟩ := lk
  have hts := E.2.2.2.2.2.2.1
  have hf := E.2.2.2.2.2.2.2.2.1
  have hlo := E.2.2.2.2.2.2.2.2.2.1
  obtain ⟨hF, hpre⟩ := zpre E.2.2.2.2.2.2.2.2.2.2.1 E.2.2.2.2.2.2.2.2.2.2.2.1 hS hP
  have hnest : va_Nw (.methodLinkNest M.1 idx M'.2.1 RX12) s := by
    have := E.2.2.2.2.2.2.2.2.2.2.2.1.2.2.2.2.2.2.2.2.2.2.2.1 _ hne
    rw [← hy] at this
    exact this
  have hws : zws M' = Cond.code M'.2.1 M'.2.2.1 M'.2.2.2.1 none :: zGT := by
    unfold zws zcode
    rw [hret]
  have hcn : va_CN R s args M.1 idx M'.2.1 RX12 M'.2.2.1 M'.2.2.2.1 none (zws M') (zrm d' kc' ks') kc' ks' 0 := va_cnB 0 hts (zGoodIn hcode) hws rfl rfl hnest (hts _ hini) hdd ⟨by show d' + 1 ≤ R.frames; omega, by show 8 + (M'.2.2.2.1 + 11) + 60 * d' ≤ R.locals; omega⟩
  have hnm : M'.2.1.name = "<init>" := by rw [hy]
  exact zJ_afterI E hc hs1 hS hP hn he hl (fun v q => hv v (List.mem_cons_of_mem _ q)) hF (va_runIN (As := []) (rest := rest.map (zv ad)) (b := ad b) (Ts := zGT) ⟨E.1, E.2.1, E.2.2.1, E.2.2.2.2.2.1, hts⟩ (zMet hC hnx D cT ao ad H.size) ⟨hcn, hnm, hts _ hin⟩ ⟨zPc_blind, fun U hU hW => hpre U hU hW [.ref b]⟩ rfl rfl hl.1.1 rfl (lv_room (by rw [zS_cat]; exact hcat)) hd ⟨by omega, by omega⟩) kk
def znm : List String := ["java/lang/RuntimeException", "java/lang/Exception"]
def zLT (own : String) (ik ic : Nat) (cls : String) : Prop := Bundle.fit cls = true ∧ Cond.classLink own ik cls ∈ zGT ∧ Cond.initialized cls ∈ zGT ∧ (∀ w ∈ (vx_atS own ic cls znm).filter goodWord, w ∈ zGT) ∧ (∀ w ∈ (vx_atS own ic cls znm).filter (fun w => !goodWord w), w ∈ [Cond.castable cls cls]) ∧ (∀ w ∈ Cond.classLink own ik cls :: Cond.initialized cls :: vx_atS own ic cls znm, vx_ot w = true) ∧ (cls = "java/lang/IllegalArgumentException" ∨ cls = "java/util/NoSuchElementException")
/-- throw new E("..") -/
theorem zJ_throw {ik is ic num : Nat} {cls tx : String} (lk : zLT M.1 ik ic cls) (hq : (M.1, is, tx, num) ∈ zstr) (hst : (S.map fun v => v.category).sum ≤ 8) (hdp : 6 ≤ d) (hM : M.2.2.2.2.2 = []) (d0 : decode M.2.2.1 pc = .ok (.new ik, 3)) (d3 : decode M.2.2.1 (pc + 3) = .ok (.dup, 1)) (d4 : decode M.2.2.1 (pc + 4) = .ok (.ldc_w is, 3)) (d7 : decode M.2.2.1 (pc + 7) = .ok (.invokespecial ic, 3)) (d10 : decode M.2.2.1 (pc + 10) = .ok (.athrow, 1))
    (hp : post (.inr cls) h) : zJ l Xi M d (kc + 1) (ks + 6) pc Ls S h post := by
  intro p e R s m args below meth c H locs cells slots ls D cT ao ad A n0 ad0 E hc hs1 hS hP hn he hl hv
  obtain ⟨t1, t2, t3, t4, t5, t6, t7⟩ := lk
  have hts := E.2.2.2.2.2.2.1
  have hO := E.2.2.2.2.2.2.2.2.2.2.2.1
  have hfr := E.2.2.2.2.2.2.2.2.1
  have hlo := E.2.2.2.2.2.2.2.2.2.1
  have hcs : (Cond.castable cls cls).before args s = true := by
    rcases t7 with rfl | rfl
    · exact va_Nw.use rfl hO.2.2.2.2.2.2.2.2.2.2.2.2.2.1
    · exact va_Nw.use rfl hO.2.2.2.2.2.2.2.2.2.2.2.2.2.2.1
  refine vx_throwSW (names := znm) (A := A) (rest := S.map (zv ad)) E.1 E.2.1 E.2.2.2.2.2.2.2.2.2.2.2.2.1 E.2.2.2.2.2.1 t1 (by decide +kernel) (hts _ t2) (hts _ t3) (hO.2.2.2.1 _ hq) (vx_hat (B := [Cond.castable cls cls]) (fun w hw => hts w (t4 w hw)) t5 (fun w hw => by rw [List.mem_singleton.mp hw]; exact hcs)) t6 hO.2.2.2.2.2.1 hO.2.2.2.2.2.2.1 hS (by rw [E.2.2.1]; exact hl.1.1) d0 d3 d4 d7 d10 (by rw [E.2.2.2.2.2.2.2.1, hM]; intro x hx; cases hx) (by show 2 + 3 < R.frames; omega) (by rw [zS_cat]; show _ + (13 * (2 + 1) + 43) ≤ R.locals; omega) (by omega) (by omega) E.2.2.2.2.1 ?_ hS.2.2 (by omega) (by omega)
  intro t hvm hsz hk
  refine ⟨⟨h, ad, hp, hn, he, va_K.moved hvm hP.1, hP.2.1.kept (fun k q hkq => hk q.1 ((hP.2.1 k q hkq).lt)), hP.2.2⟩, Nat.le_trans hS.1 hsz, fun q h1 h2 => ?_⟩
  rw [hk q (Nat.lt_of_lt_of_le h1 hS.1)]
  exact hS.2.1 q h1 h2
end ZI
