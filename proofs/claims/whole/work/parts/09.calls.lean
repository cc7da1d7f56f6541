/-! ===== contracts over the whole world, and calls ===== -/
def zrm (d kc ks : Nat) : Room := { frames := d, cells := kc, slots := ks, locals := 60 * d }
def zPc (Xi : zXi) (D : va_G) (cT : Nat → ClassId) (ao ad : Nat → Nat) (h : zH) (sz : Nat) (av : List Value) : Array Value → State → Prop :=
  va_Pc (av.map (zv ad)) (fun U => U.heap.size = sz ∧ zpw D cT ao ad h (fun _ => True) U U.heap ∧ zOut Xi ao (va_A (zw ad cT h) sz) U U.heap)
/-- method M's contract at these arguments and this heap -/
def zC (l : Launch) (Xi : zXi) (M : zM) (d kc ks : Nat) (av : List Value) (h : zH) (post : zR → zH → Prop) : Prop :=
  ∀ (D : va_G) (cT : Nat → ClassId) (ao ad : Nat → Nat) (sz : Nat), vx_Met l M.2.1 (zws M) (zrm d kc ks) (zPc Xi D cT ao ad h sz av) (zQ D cT ao (va_A (zw ad cT h) sz) h.2.1 ad post) (zX D cT ao (va_A (zw ad cT h) sz) h.2.1 ad post) kc ks (va_A (zw ad cT h) sz)
theorem zPc_blind {Xi : zXi} {D : va_G} {cT : Nat → ClassId} {ao ad : Nat → Nat} {h : zH} {sz : Nat} {av : List Value} : FrameBlind (zPc Xi D cT ao ad h sz av) := by
  intro a U g mk hq
  obtain ⟨q1, q2, q3, q4⟩ := hq
  exact ⟨q1, q2, ⟨va_K.moved (u := U) (U := U.calling g mk a) (Vm.Alike.refl U.vm) q3.1, q3.2⟩, zOut_calling q4⟩
theorem lv_args_at : ∀ (vs : List Value) (k : Nat), (∀ v ∈ vs, v.category = 1) → ∀ (i : Nat) (v : Value), vs[i]? = some v → (k + i, v) ∈ lv_args k vs
  | [], _, _, i, v, h => by simp at h
  | w :: vs, k, hc, 0, v, h => by
    simp at h
    subst h
    exact List.mem_cons_self
  | w :: vs, k, hc, i + 1, v, h => by
    have h1 : ¬ w.category = 2 := by rw [hc w List.mem_cons_self]; decide
    have := lv_args_at vs (k + 1) (fun v hv => hc v (List.mem_cons_of_mem _ hv)) i v (by simpa using h)
    rw [show k + (i + 1) = k + 1 + i by omega]
    unfold lv_args
    rw [if_neg h1]
    exact List.mem_cons_of_mem _ this
theorem lg_sl_len : ∀ (vs : List Value), (∀ v ∈ vs, v.category = 1) → (lg_sl vs).length = vs.length
  | [], _ => rfl
  | w :: vs, hc => by
    have h1 := hc w List.mem_cons_self
    have ih := lg_sl_len vs (fun v hv => hc v (List.mem_cons_of_mem _ hv))
    cases w <;> simp_all [lg_sl, Value.category]
theorem zC_of {l : Launch} {Xi : zXi} {M : zM} {d kc ks : Nat} {av : List Value} {h : zH} {post : zR → zH → Prop} (hl : l.stackTraces = false) (hh : M.2.2.2.2.2 = []) (hy : plainName M.2.1.cls = true) (hown : M.1 = M.2.1.cls) (hlen : av.length ≤ M.2.2.2.1) (hav : ∀ v ∈ av, zok h.2.1 v ∧ v.category = 1)
    (k : zJ l Xi M d kc ks 0 (av.map some ++ List.replicate (M.2.2.2.1 - av.length) none) [] h post) : zC l Xi M d kc ks av h post := by
  intro D cT ao ad sz
  refine vx_ofW (cc := M.2.2.1) (maxL := M.2.2.2.1) (ret := M.2.2.2.2.1) hy (ws' := zGT) (by unfold zws zcode; rw [hh]) ?_
  intro p e s m args below meth c s₁ B hml hT hv
  obtain ⟨rfl, hsz, hP, hO⟩ := hv
  subst hsz
  have hts := atoms_spec (ws := zws M) B.pre
  have hown' : s.vm.findClass M.1 = some m.cls := by rw [hown]; exact findClass_of_methodNamed B.named
  have hcat : ∀ v ∈ av.map (zv ad), v.category = 1 := fun v hv => by
    obtain ⟨w, h1, rfl⟩ := List.mem_map.mp hv
    exact zv_cat.trans (hav w h1).2
  have hl0 := lv_entry (av.map (zv ad)) (n := M.2.2.2.1) (by rw [lg_sl_len _ hcat, List.length_map]; exact hlen)
  rw [lg_entry_eq]
  generalize (lg_sl (av.map (zv ad)) ++ List.replicate (M.2.2.2.1 - (lg_sl (av.map (zv ad))).length) Slot.unset).toArray = ls at hl0 ⊢
  have hzl : zL ad h.2.1 (av.map some ++ List.replicate (M.2.2.2.1 - av.length) none) ls M.2.2.2.1 := by
    have key : ∀ (i : Nat) (v : Value), (av.map some ++ List.replicate (M.2.2.2.1 - av.length) none)[i]? = some (some v) → av[i]? = some v := by
      intro i v q
      by_cases hi : i < av.length
      · rw [List.getElem?_append_left (by simpa using hi), List.getElem?_map] at q
        cases hq : av[i]? with
        | none => rw [hq] at q; cases q
        | some w => rw [hq] at q; cases q; rfl
      · rw [List.getElem?_append_right (by simpa using hi)] at q
        have := List.mem_of_getElem? q
        rw [List.mem_replicate] at this
        cases this.2
    refine ⟨⟨hl0.1, hl0.2.1, fun q hq => hl0.2.2 q ?_⟩, fun i v q => hav v (List.mem_of_getElem? (key i v q))⟩
    obtain ⟨v, h1, h2⟩ := zlv_mem.mp hq
    have h3 := key _ _ h1
    have := lv_args_at (av.map (zv ad)) 0 hcat q.1 (zv ad v) (by rw [List.getElem?_map, h3]; rfl)
    rw [Nat.zero_add, ← h2] at this
    exact this
  have htab : c.exceptionTable.toList = tableOf M.2.2.2.2.2 := by
    rw [hh]
    cases hc : c.exceptionTable.toList with
    | nil => rfl
    | cons x xs => exact (hT x (by rw [hc]; exact List.mem_cons_self)).elim
  exact k p e _ s m _ below meth c s.heap [] 0 0 ls D cT ao ad (va_A (zw ad cT h) s.heap.size) h.2.1 ad
    ⟨B.exec, B.bytes, hml, B.returns, B.notSynchronized, hown', fun w hw => hts w (List.mem_cons_of_mem _ hw), htab, Nat.le_refl _, Nat.le_refl _, fun q hq => Or.inr hq, hO, hl, fun hi => (name_of_methodNamed B.named B.method).1.trans hi⟩
    (by show 0 + kc ≤ kc; omega) (by show 0 + ks ≤ ks; omega) va_S.rf ⟨hP.1, hP.2.1, hP.2.2.1.self, hP.2.2.2⟩ (Nat.le_refl _) zext_rfl hzl (fun v hv => by cases hv)
section ZCALL
variable {p : Program} {l : Launch} {e : Env} {R : Room} {s : State} {m : MethodId} {args : Array Value} {below : List Frame} {meth : Method} {c : Code} {H : Heap} {locs : List Loc} {cells slots : Nat} {Q : State → Prop}
variable {mc ms : Nat} {free : Addr → Prop} {A0 A1 : Nat → Prop} {H0 : Heap} {a : Array Value} {pc : Nat} {ls : Array Slot} {st0 rest : List Value} {D : va_G} {cT : Nat → ClassId} {ao ad : Nat → Nat} {n1 : Nat} {post1 : zR → zH → Prop}
theorem z_callX (hr : vx_Run p l e R s m args below meth c H locs cells slots mc ms (F0 m pc ls st0) rest (zQ D cT ao A1 n1 ad post1 a) (zX D cT ao A1 n1 ad post1) free) (hS : va_S A0 H0 H locs) (hA : ∀ q, q < H.size → A1 q → A0 q) (hf : ∀ q, free q → A0 q)
    (kx : ∀ (E : String) (ce : Cell) (q9 : Addr) (h' : zH) (ad' : Nat → Nat) (t : State) (H1 : Heap) (locs1 : List Loc), t.heap = H1 → s.vm.Alike t.vm → post1 (.inr E) h' → n1 ≤ h'.2.1 → zext n1 ad ad' → zpw D cT ao ad' h' A1 t H1 → va_S A0 H0 H1 locs1 → H1[q9]? = some ce → ce.vm = .none → s.vm.findClass E = some ce.cls → vx_W p l e R s m args below meth c H1 locs1 (cells + mc) (slots + ms) Q (F0 m pc ls rest) q9)
    (kk : ∀ (r : Option Value) (h' : zH) (ad' : Nat → Nat) (t : State) (H1 : Heap) (locs1 : List Loc), t.heap = H1 → s.vm.Alike t.vm → post1 (.inl r) h' → n1 ≤ h'.2.1 → zext n1 ad ad' → (∀ v, r = some v → zok h'.2.1 v) → zpw D cT ao ad' h' A1 t H1 → va_S A0 H0 H1 locs1 → W p l e R s m args below meth c H1 locs1 (cells + mc) (slots + ms) Q (F0 m (pc + 3) ls ((r.map (zv ad')).toList ++ rest))) : W p l e R s m args below meth c H locs cells slots Q (F0 m pc ls st0) := by
  intro T hT X
  rcases hr T hT X with ⟨v, st₀, t, T', L, h0, X', hL, e1, e2, ⟨⟨r, h', ad', hv, hp, hn, he, hz, hP⟩, hF⟩, st⟩ | ⟨q, st₀, t, T', L, E, ce, h0, X', hL, e1, e2, ⟨⟨h', ad', hp, hn, he, hP⟩, hF⟩, hce, hcv, hcl, st⟩
  · cases hv
    obtain ⟨k1, k2, k3⟩ := vx_keep h0 e1 hS hA hf hL hF
    obtain ⟨t2, a1, b1⟩ := kk r h' ad' t T'.heap (locs ++ L) e1.symm (by rw [← e2]; exact X'.warmed.alike) hp hn he hz (by rw [e1]; exact hP) k3 T' rfl X'
    exact ⟨t2, st t2 a1, b1⟩
  · obtain ⟨k1, k2, k3⟩ := vx_keep h0 e1 hS hA hf hL hF
    obtain ⟨t2, a1, b1⟩ := kx E ce q h' ad' t T'.heap (locs ++ L) e1.symm (by rw [← e2]; exact X'.warmed.alike) hp hn he (by rw [e1]; exact hP) k3 (by rw [e1]; exact hce) hcv hcl T' rfl X'
    exact ⟨t2, st.trans a1, b1⟩
theorem z_callR (hr : va_Run p l e R s m args below meth c H locs cells slots mc ms (F0 m pc ls st0) rest (zQ D cT ao A1 n1 ad post1 a) free) (hS : va_S A0 H0 H locs) (hA : ∀ q, q < H.size → A1 q → A0 q) (hf : ∀ q, free q → A0 q)
    (kk : ∀ (r : Option Value) (h' : zH) (ad' : Nat → Nat) (t : State) (H1 : Heap) (locs1 : List Loc), t.heap = H1 → s.vm.Alike t.vm → post1 (.inl r) h' → n1 ≤ h'.2.1 → zext n1 ad ad' → (∀ v, r = some v → zok h'.2.1 v) → zpw D cT ao ad' h' A1 t H1 → va_S A0 H0 H1 locs1 → W p l e R s m args below meth c H1 locs1 (cells + mc) (slots + ms) Q (F0 m (pc + 3) ls ((r.map (zv ad')).toList ++ rest))) : W p l e R s m args below meth c H locs cells slots Q (F0 m pc ls st0) := by
  intro T hT X
  obtain ⟨v, st₀, t, T', L, h0, X', hL, e1, e2, ⟨⟨r, h', ad', hv, hp, hn, he, hz, hP⟩, hF⟩, st⟩ := hr T hT X
  cases hv
  obtain ⟨k1, k2, k3⟩ := vx_keep h0 e1 hS hA hf hL hF
  obtain ⟨t2, a1, b1⟩ := kk r h' ad' t T'.heap (locs ++ L) e1.symm (by rw [← e2]; exact X'.warmed.alike) hp hn he hz (by rw [e1]; exact hP) k3 T' rfl X'
  exact ⟨t2, st t2 a1, b1⟩
end ZCALL
/-- what a program has checked of a call -/
def zLB (own : String) (idx : Nat) (M' : zM) (n : Nat) : Prop := M'.2.2.2.2.2 = [] ∧ Cond.methodLink own idx M'.2.1 ∈ zGT ∧ Cond.initialized M'.2.1.cls ∈ zGT ∧ zcode M' ∈ zGT ∧ (M'.2.1.cls ≠ "java/lang/invoke/MethodHandle" ∧ M'.2.1.cls ≠ "java/lang/invoke/VarHandle" ∧ (parseMethodDescriptor M'.2.1.desc).map (fun d => d.parameters.length) = some n) ∧ M'.2.2.2.1 ≤ 41
def zLV (own : String) (idx : Nat) (M' : zM) (ci n : Nat) : Prop := zLB own idx M' n ∧ (∃ (T : u_T) (N : Nat), vwCl[ci]? = some (M'.2.1.cls, T, N)) ∧ Cond.instanceMethod M'.2.1 ∈ zGT ∧ Cond.selects M'.2.1.cls M'.2.1 M'.2.1 ∈ zGT
def zLS (own : String) (idx : Nat) (M' : zM) (n : Nat) : Prop := zLB own idx M' n ∧ Cond.static M'.2.1 ∈ zGT
theorem zGoodIn {M : zM} (h : zcode M ∈ zGT) : GoodIn zGT (zws M) := by
  intro w hw
  rcases List.mem_cons.mp hw with rfl | hw
  · exact ⟨h, good_of_word (zGT_good h)⟩
  · exact ⟨hw, good_of_word (zGT_good hw)⟩
theorem zLB_call {own : String} {idx n d d' kc' ks' : Nat} {M' : zM} {R : Room} {s : State} {args : Array Value} (lk : zLB own idx M' n) (hts : ∀ w ∈ zGT, w.before args s = true) (hd1 : d' + 1 ≤ d) (hf : d ≤ R.frames) (hlo : 60 * d ≤ R.locals) : CallB R s args own idx M'.2.1 M'.2.2.1 M'.2.2.2.1 M'.2.2.2.2.1 (zws M') (zrm d' kc' ks') kc' ks' n := by
  obtain ⟨h1, h2, h3, h4, h5, h6⟩ := lk
  refine callB_of (ws' := zGT) n hts (zGoodIn h4) (by unfold zws zcode; rw [h1]) rfl rfl (hts _ h3) (hts _ h2) h5 ⟨?_, ?_⟩
  · show d' + 1 ≤ R.frames
    omega
  · show 8 + (M'.2.2.2.1 + 11) + 60 * d' ≤ R.locals
    omega
section ZK
variable {l : Launch} {Xi : zXi} {M : zM} {d kc ks pc : Nat} {Ls : List (Option Value)} {S : List Value} {h : zH} {post : zR → zH → Prop}
theorem zpre {D : va_G} {cT : Nat → ClassId} {ao ad : Nat → Nat} {A : Nat → Prop} {s : State} {H : Heap} {locs : List Loc} (hA : ∀ q, s.heap.size ≤ q → A q) (hO : zOut Xi ao A s s.heap) (hS : va_S A s.heap H locs) (hP : zpw D cT ao ad h A s H) : (∀ q, va_A (zw ad cT h) H.size q → A q) ∧ ∀ U : State, U.heap = H → s.WarmedH U.vm → ∀ av : List Value, zPc Xi D cT ao ad h H.size av (av.map (zv ad)).toArray U := by
  have hF : ∀ q, va_A (zw ad cT h) H.size q → A q := by
    intro q hq
    rcases hq with ⟨k, e, hk⟩ | hq
    · exact hP.2.2.1.2 k _ hk
    · exact hA q (Nat.le_trans hS.1 hq)
  refine ⟨hF, fun U hU hW av => ⟨rfl, by rw [hU], ⟨va_K.moved hW.alike hP.1, by rw [hU]; exact hP.2.1, hP.2.2.1.weaken (fun _ _ _ _ => trivial), hP.2.2.2⟩, by rw [hU]; exact zOut_to hO hS hF hW⟩⟩
theorem zpost {D : va_G} {cT : Nat → ClassId} {ao ad' : Nat → Nat} {A A1 : Nat → Prop} {s t : State} {H1 : Heap} {h' : zH} (hF : ∀ q, A1 q → A q) (hvm : s.vm.Alike t.vm) (hP : zpw D cT ao ad' h' A1 t H1) : zpw D cT ao ad' h' A s H1 := ⟨va_K.moved hvm.symm hP.1, hP.2.1, hP.2.2.1.weaken (fun _ _ _ q => hF _ q), hP.2.2.2⟩
theorem zJ_callV {M' : zM} {idx ci b d' kc' ks' : Nat} (As rest : List Value) {post1 : zR → zH → Prop} (lk : zLV M.1 idx M' ci As.length) (hC : zC l Xi M' d' kc' ks' (.ref b :: As) h post1) (hb : b < h.2.1) (hsb : h.2.2.1 b = .inl ci) (hst : S = As.reverse ++ .ref b :: rest) (hd1 : d' + 1 ≤ d) (hcat : (rest.map fun v => v.category).sum ≤ 8) (hM : M.2.2.2.2.2 = []) (hd : decode M.2.2.1 pc = .ok (.invokevirtual idx, 3))
    (kx : ∀ E h1, post1 (.inr E) h1 → h.2.1 ≤ h1.2.1 → post (.inr E) h1) (kk : ∀ r h1, post1 (.inl r) h1 → h.2.1 ≤ h1.2.1 → zJ l Xi M d kc ks (pc + 3) Ls (r.toList ++ rest) h1 post) : zJ l Xi M d (kc + kc') (ks + ks') pc Ls S h post := by
  intro p e R s m args below meth c H locs cells slots ls D cT ao ad A n0 ad0 E hc hs1 hS hP hn he hl hv
  subst hst
  obtain ⟨lb, ⟨T, N, hcl⟩, hin, hsel⟩ := lk
  have hts := E.2.2.2.2.2.2.1
  obtain ⟨hF, hpre⟩ := zpre E.2.2.2.2.2.2.2.2.2.2.1 E.2.2.2.2.2.2.2.2.2.2.2.1 hS hP
  have hrest : ∀ v ∈ rest, zok h.2.1 v := fun v q => hv v (List.mem_append_right _ (List.mem_cons_of_mem _ q))
  refine z_callX (D := D) (cT := cT) (ao := ao) (ad := ad) (n1 := h.2.1) (post1 := post1) (A1 := va_A (zw ad cT h) H.size) (rest := rest.map (zv ad)) (vx_runV (As := As.map (zv ad)) (rest := rest.map (zv ad)) (b := ad b) (C := M'.2.1.cls) (Ts := zGT) ⟨E.1, E.2.1, E.2.2.1, E.2.2.2.2.2.1, hts⟩ (hC D cT ao ad H.size) ⟨zLB_call lb hts hd1 E.2.2.2.2.2.2.2.2.1 E.2.2.2.2.2.2.2.2.2.1, hts _ hin, hts _ hsel⟩ ⟨zPc_blind, va_recv (q0 := b) hP.1 hP.2.1 hcl ((zw_at hb).trans (by rw [zc_o hsb])), fun U hU hW => hpre U hU hW (.ref b :: As)⟩ rfl (by simp) hl.1.1 (by simp [zv]) (lv_room (by rw [zS_cat]; exact hcat)) hd ⟨by omega, by omega⟩) hS (fun q _ hq => hF q hq) hF ?_ ?_
  · intro E1 ce q9 h' ad' t H1 locs1 ht hvm hp hn1 he1 hP1 hS1 hce hcv hcl1
    refine vx_out (by rw [E.2.2.2.2.2.2.2.1, hM]; intro x hx; cases hx) E.2.2.2.2.1 hce hcv hcl1 (fun t2 ht2 hv2 => ⟨⟨h', ad', kx E1 h' hp hn1, Nat.le_trans hn hn1, zext_trans he hn he1, by
      have := zpost (s := t2) hF (hv2.symm.trans hvm) hP1
      rw [ht2]; exact this⟩, hS1.F ht2⟩) hS1.2.2 (by omega) (by omega)
  · intro r h' ad' t H1 locs1 ht hvm hp hn1 he1 hz hP1 hS1
    have K := kk r h' hp hn1 p e R s m args below meth c H1 locs1 (cells + kc') (slots + ks') ls D cT ao ad' A n0 ad0 E (by omega) (by omega) hS1 (zpost hF hvm hP1) (Nat.le_trans hn hn1) (zext_trans he hn he1) (zL_ext he1 hn1 hl) (fun v q => by
      rcases List.mem_append.mp q with q | q
      · cases r with
        | none => cases q
        | some w => rw [List.mem_singleton.mp q]; exact hz w rfl
      · exact zok_mono hn1 (hrest v q))
    rw [List.map_append, zS_ext he1 hrest] at K
    have e9 : (r.toList).map (zv ad') = (r.map (zv ad')).toList := by cases r <;> rfl
    rw [e9] at K
    exact K
theorem zJ_callS {M' : zM} {idx d' kc' ks' : Nat} (As rest : List Value) {post1 : zR → zH → Prop} (lk : zLS M.1 idx M' As.length) (hC : zC l Xi M' d' kc' ks' As h post1) (hst : S = As.reverse ++ rest) (hd1 : d' + 1 ≤ d) (hcat : (rest.map fun v => v.category).sum ≤ 8) (hM : M.2.2.2.2.2 = []) (hd : decode M.2.2.1 pc = .ok (.invokestatic idx, 3))
    (kx : ∀ E h1, post1 (.inr E) h1 → h.2.1 ≤ h1.2.1 → post (.inr E) h1) (kk : ∀ r h1, post1 (.inl r) h1 → h.2.1 ≤ h1.2.1 → zJ l Xi M d kc ks (pc + 3) Ls (r.toList ++ rest) h1 post) : zJ l Xi M d (kc + kc') (ks + ks') pc Ls S h post := by
  intro p e R s m args below meth c H locs cells slots ls D cT ao ad A n0 ad0 E hc hs1 hS hP hn he hl hv
  subst hst
  obtain ⟨lb, hsta⟩ := lk
  have hts := E.2.2.2.2.2.2.1
  obtain ⟨hF, hpre⟩ := zpre E.2.2.2.2.2.2.2.2.2.2.1 E.2.2.2.2.2.2.2.2.2.2.2.1 hS hP
  have hrest : ∀ v ∈ rest, zok h.2.1 v := fun v q => hv v (List.mem_append_right _ q)
  refine z_callX (D := D) (cT := cT) (ao := ao) (ad := ad) (n1 := h.2.1) (post1 := post1) (A1 := va_A (zw ad cT h) H.size) (rest := rest.map (zv ad)) (vx_runS (As := As.map (zv ad)) (rest := rest.map (zv ad)) (Ts := zGT) ⟨E.1, E.2.1, E.2.2.1, E.2.2.2.2.2.1, hts⟩ (hC D cT ao ad H.size) ⟨zLB_call lb hts hd1 E.2.2.2.2.2.2.2.2.1 E.2.2.2.2.2.2.2.2.2.1, hts _ hsta⟩ ⟨zPc_blind, fun U hU hW => hpre U hU hW As⟩ rfl (by simp) hl.1.1 (by simp) (lv_room (by rw [zS_cat]; exact hcat)) hd ⟨by omega, by omega⟩) hS (fun q _ hq => hF q hq) hF ?_ ?_
  · intro E1 ce q9 h' ad' t H1 locs1 ht hvm hp hn1 he1 hP1 hS1 hce hcv hcl1
    refine vx_out (by rw [E.2.2.2.2.2.2.2.1, hM]; intro x hx; cases hx) E.2.2.2.2.1 hce hcv hcl1 (fun t2 ht2 hv2 => ⟨⟨h', ad', kx E1 h' hp hn1, Nat.le_trans hn hn1, zext_trans he hn he1, by
      have := zpost (s := t2) hF (hv2.symm.trans hvm) hP1
      rw [ht2]; exact this⟩, hS1.F ht2⟩) hS1.2.2 (by omega) (by omega)
  · intro r h' ad' t H1 locs1 ht hvm hp hn1 he1 hz hP1 hS1
    have K := kk r h' hp hn1 p e R s m args below meth c H1 locs1 (cells + kc') (slots + ks') ls D cT ao ad' A n0 ad0 E (by omega) (by omega) hS1 (zpost hF hvm hP1) (Nat.le_trans hn hn1) (zext_trans he hn he1) (zL_ext he1 hn1 hl) (fun v q => by
      rcases List.mem_append.mp q with q | q
      · cases r with
        | none => cases q
        | some w => rw [List.mem_singleton.mp q]; exact hz w rfl
      · exact zok_mono hn1 (hrest v q))
    rw [List.map_append, zS_ext he1 hrest] at K
    have e9 : (r.toList).map (zv ad') = (r.map (zv ad')).toList := by cases r <;> rfl
    rw [e9] at K
    exact K
end ZK
