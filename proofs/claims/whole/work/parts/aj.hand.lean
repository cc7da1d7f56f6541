/-! ===== methods with handlers: the law's own wrappers ===== -/
section ZHand
theorem zC_ofH {l : Launch} {Xi : zXi} {M : zM} {d kc ks : Nat} {av : List Value} {h : zH} {post : zR → zH → Prop} (hl : l.stackTraces = false) (hw : zws M = Cond.codeWith M.2.1 M.2.2.1 M.2.2.2.1 M.2.2.2.2.1 M.2.2.2.2.2 :: zGT) (hy : plainName M.2.1.cls = true) (hown : M.1 = M.2.1.cls) (hlen : av.length ≤ M.2.2.2.1) (hav : ∀ v ∈ av, zok h.2.1 v ∧ v.category = 1)
    (k : zJ l Xi M d kc ks 0 (av.map some ++ List.replicate (M.2.2.2.1 - av.length) none) [] h post) : zC l Xi M d kc ks av h post := by
  intro D cT ao ad sz
  refine vx_ofWH (cc := M.2.2.1) (maxL := M.2.2.2.1) (ret := M.2.2.2.2.1) (hh := M.2.2.2.2.2) hy (ws' := zGT) hw ?_
  intro p e s m args below meth c s₁ B hml hv
  obtain ⟨rfl, hsz, hP, hO⟩ := hv
  subst hsz
  have hts := atoms_spec (ws := zws M) B.pre
  have hown' : s.vm.findClass M.1 = some m.cls := by rw [hown]; exact findClass_of_methodNamed B.named
  have hcat : ∀ v ∈ av.map (zv ad), v.category = 1 := fun v hv => by
    obtain ⟨w, h1, rfl⟩ := List.mem_map.mp hv
    exact zv_cat.trans (hav w h1).2
  have hl0 := lv_entry (av.map (zv ad)) (n := M.2.2.2.1) (by rw [lg_sl_len _ hcat, List.length_map]; exact hlen)
  rw [lg_entry_eq]
  generalize (lg_sl (av.map (zv ad)) ++ List.replicate (M.2.2.2.1 - (lg_sl (av.map (zv ad))).length) Slot.unset).toArray = ls at hl0 ⊢
  have hzl : zL ad h.2.1 (av.map some ++ List.replicate (M.2.2.2.1 - av.length) none) ls M.2.2.2.1 := by
    have key : ∀ (i : Nat) (v : Value), (av.map some ++ List.replicate (M.2.2.2.1 - av.length) none)[i]? = some (some v) → av[i]? = some v := by
      intro i v q
      by_cases hi : i < av.length
      · rw [List.getElem?_append_left (by simpa using hi), List.getElem?_map] at q
        cases hq : av[i]? with
        | none => rw [hq] at q; cases q
        | some w => rw [hq] at q; cases q; rfl
      · rw [List.getElem?_append_right (by simpa using hi)] at q
        have := List.mem_of_getElem? q
        rw [List.mem_replicate] at this
        cases this.2
    refine ⟨⟨hl0.1, hl0.2.1, fun q hq => hl0.2.2 q ?_⟩, fun i v q => hav v (List.mem_of_getElem? (key i v q))⟩
    obtain ⟨v, h1, h2⟩ := zlv_mem.mp hq
    have h3 := key _ _ h1
    have := lv_args_at (av.map (zv ad)) 0 hcat q.1 (zv ad v) (by rw [List.getElem?_map, h3]; rfl)
    rw [Nat.zero_add, ← h2] at this
    exact this
  have htab : c.exceptionTable.toList = tableOf M.2.2.2.2.2 := by
    obtain ⟨m9, meth9, c9, hn9, h1, h2, h3, h4, h5, -⟩ := Cond.codeWith_spec (hts _ (by rw [hw]; exact List.mem_cons_self))
    cases hn9.symm.trans B.named
    have hcc := B.here.code
    have hs1 : s₁.code? m = s.code? m := by rw [B.state]; rfl
    rw [hs1] at hcc
    have hc9 : s.code? m = some c9 := by
      have e9 : s.code? m = (s.vm.method? m).bind (fun x => x.code) := by
        unfold State.code? Vm.method?
        cases s.vm.classes[m.cls]? with
        | none => rfl
        | some k9 => rfl
      rw [e9, h1]; exact h2
    rw [hc9] at hcc
    cases hcc
    rw [← h5]
    exact (table_eq _).symm
  exact k p e _ s m _ below meth c s.heap [] 0 0 ls D cT ao ad (va_A (zw ad cT h) s.heap.size) h.2.1 ad
    ⟨B.exec, B.bytes, hml, B.returns, B.notSynchronized, hown', fun w hw9 => hts w (by rw [hw]; exact List.mem_cons_of_mem _ hw9), htab, Nat.le_refl _, Nat.le_refl _, fun q hq => Or.inr hq, hO, hl, fun hi => (name_of_methodNamed B.named B.method).1.trans hi⟩
    (by show 0 + kc ≤ kc; omega) (by show 0 + ks ≤ ks; omega) va_S.rf ⟨hP.1, hP.2.1, hP.2.2.1.self, hP.2.2.2⟩ (Nat.le_refl _) zext_rfl hzl (fun v hv => by cases hv)
section ZHJ
variable {l : Launch} {Xi : zXi} {M : zM} {d kc ks pc : Nat} {Ls : List (Option Value)} {S : List Value} {h : zH} {post : zR → zH → Prop}
/-- what catches: the first row that takes it, and the rows behind which it lies -/
def zCa (M : zM) (pc : Nat) (E : String) (v : Int32) : Prop := ∃ (pre suf : List ExceptionTableEntry) (x : ExceptionTableEntry), tableOf M.2.2.2.2.2 = pre ++ x :: suf ∧ (∀ z ∈ pre, z.catchType ≠ 0 ∧ ∃ nm : String, Cond.classLink M.1 z.catchType nm ∈ zGT ∧ ((E = "java/lang/IllegalArgumentException" ∧ nm = "java/util/NoSuchElementException") ∨ (E = "java/util/NoSuchElementException" ∧ nm = "java/lang/IllegalArgumentException"))) ∧ covers x pc = true ∧ x.catchType ≠ 0 ∧ Cond.classLink M.1 x.catchType E ∈ zGT ∧ (E = "java/lang/IllegalArgumentException" ∨ E = "java/util/NoSuchElementException") ∧
  ∃ (j n : Nat), ((∃ i : Fin 4, (i : Nat) = j ∧ n = 1 ∧ decode M.2.2.1 x.handlerPc = .ok (.astore_n i, 1)) ∨ (n = 2 ∧ decode M.2.2.1 x.handlerPc = .ok (.astore j, 2))) ∧ j < M.2.2.2.1 ∧ (∃ w : Int, decode M.2.2.1 (x.handlerPc + n) = .ok (.iconst w, 1) ∧ Int32.ofInt w = v) ∧ decode M.2.2.1 (x.handlerPc + n + 1) = .ok (.ireturn, 1)
theorem zJ_callVH {M' : zM} {idx ci b d' kc' ks' : Nat} (As rest : List Value) {post1 : zR → zH → Prop} (lk : zLV M.1 idx M' ci As.length) (hC : zC l Xi M' d' kc' ks' (.ref b :: As) h post1) (hb : b < h.2.1) (hsb : h.2.2.1 b = .inl ci) (hst : S = As.reverse ++ .ref b :: rest) (hd1 : d' + 1 ≤ d) (hcat : (rest.map fun v => v.category).sum ≤ 8) (hr : M.2.2.2.2.1 = some .int) (hd : decode M.2.2.1 pc = .ok (.invokevirtual idx, 3))
    (kx : ∀ E h1, post1 (.inr E) h1 → h.2.1 ≤ h1.2.1 → ∃ v, zCa M pc E v ∧ post (.inl (some (.int v))) h1) (kk : ∀ r h1, post1 (.inl r) h1 → h.2.1 ≤ h1.2.1 → zJ l Xi M d kc ks (pc + 3) Ls (r.toList ++ rest) h1 post) : zJ l Xi M d (kc + kc') (ks + ks') pc Ls S h post := by
  intro p e R s m args below meth c H locs cells slots ls D cT ao ad A n0 ad0 E hc hs1 hS hP hn he hl hv
  subst hst
  obtain ⟨lb, ⟨T, N, hcl⟩, hin, hsel⟩ := lk
  have hts := E.2.2.2.2.2.2.1
  obtain ⟨hF, hpre⟩ := zpre E.2.2.2.2.2.2.2.2.2.2.1 E.2.2.2.2.2.2.2.2.2.2.2.1 hS hP
  have hrest : ∀ v ∈ rest, zok h.2.1 v := fun v q => hv v (List.mem_append_right _ (List.mem_cons_of_mem _ q))
  refine z_callX (D := D) (cT := cT) (ao := ao) (ad := ad) (n1 := h.2.1) (post1 := post1) (A1 := va_A (zw ad cT h) H.size) (rest := rest.map (zv ad)) (vx_runV (As := As.map (zv ad)) (rest := rest.map (zv ad)) (b := ad b) (C := M'.2.1.cls) (Ts := zGT) ⟨E.1, E.2.1, E.2.2.1, E.2.2.2.2.2.1, hts⟩ (hC D cT ao ad H.size) ⟨zLB_call lb hts hd1 E.2.2.2.2.2.2.2.2.1 E.2.2.2.2.2.2.2.2.2.1, hts _ hin, hts _ hsel⟩ ⟨zPc_blind, va_recv (q0 := b) hP.1 hP.2.1 hcl ((zw_at hb).trans (by rw [zc_o hsb])), fun U hU hW => hpre U hU hW (.ref b :: As)⟩ rfl (by simp) hl.1.1 (by simp [zv]) (lv_room (by rw [zS_cat]; exact hcat)) hd ⟨by omega, by omega⟩) hS (fun q _ hq => hF q hq) hF ?_ ?_
  · intro E1 ce q9 h' ad' t H1 locs1 ht hvm hp hn1 he1 hP1 hS1 hce hcv hcl1
    obtain ⟨v, ⟨pre, suf, x, t1, t2, t3, t4, t5, t6, j, n, t7, t8, ⟨w, t9, t10⟩, t11⟩, hpo⟩ := kx E1 h' hp hn1
    refine vx_catch (own := M.1) (name := E1) E.2.2.2.2.2.1 pre x suf (E.2.2.2.2.2.2.2.1.trans t1) (fun z hz => Or.inr ⟨(t2 z hz).1, ?_⟩) t3 t4 (hts _ t5) (by
      obtain ⟨-, -, -, -, -, -, -, -, -, -, -, -, -, n3, n4, -⟩ := E.2.2.2.2.2.2.2.2.2.2.2.1
      rcases t6 with rfl | rfl
      · exact va_tabs rfl rfl n3
      · exact va_tabs rfl rfl n4) hce hcv hcl1 ?_
    · obtain ⟨nm, c1, c2⟩ := (t2 z hz).2
      refine ⟨nm, hts _ c1, ?_⟩
      obtain ⟨-, -, -, -, -, -, -, -, -, n1, n2, -⟩ := E.2.2.2.2.2.2.2.2.2.2.2.1
      rcases c2 with ⟨rfl, rfl⟩ | ⟨rfl, rfl⟩
      · exact n1
      · exact n2
    · have fin : ∀ ls' : Array Slot, W p l e R s m args below meth c H1 locs1 (cells + kc') (slots + ks') (vx_MQ below (zQ D cT ao A n0 ad0 post) (zX D cT ao A n0 ad0 post) args s R.cells R.slots A) (F0 m (x.handlerPc + n) ls' []) := by
        intro ls'
        refine lv_iconst E.1 E.2.1 t9 t10 ?_
        have hPs := zpost hF hvm hP1
        have hlocks := E.2.2.2.2.1
        exact vx_ret (W.widen (k := R.cells) (n := R.slots) (by omega) (by omega) (W.iret (v := v) E.1 E.2.1 (E.2.2.2.1.trans hr) (fun t ht hW => ⟨⟨some (.int v), h', ad', rfl, hpo, Nat.le_trans hn hn1, zext_trans he hn he1, (fun v q => by cases q; exact trivial), va_K.moved hW.alike hPs.1, by rw [ht]; exact hPs.2.1, hPs.2.2⟩, hS1.F ht⟩) hS1.2.2 t11))
      rcases t7 with ⟨i, hi, rfl, t7⟩ | ⟨rfl, t7⟩
      · exact lv_astore_n E.1 E.2.1 t7 hi hl.1 t8 rfl (fun ls' _ => fin ls')
      · exact lv_astore E.1 E.2.1 t7 hl.1 t8 rfl (fun ls' _ => fin ls')
  · intro r h' ad' t H1 locs1 ht hvm hp hn1 he1 hz hP1 hS1
    have K := kk r h' hp hn1 p e R s m args below meth c H1 locs1 (cells + kc') (slots + ks') ls D cT ao ad' A n0 ad0 E (by omega) (by omega) hS1 (zpost hF hvm hP1) (Nat.le_trans hn hn1) (zext_trans he hn he1) (zL_ext he1 hn1 hl) (fun v q => by
      rcases List.mem_append.mp q with q | q
      · cases r with
        | none => cases q
        | some w => rw [List.mem_singleton.mp q]; exact hz w rfl
      · exact zok_mono hn1 (hrest v q))
    rw [List.map_append, zS_ext he1 hrest] at K
    have e9 : (r.toList).map (zv ad') = (r.map (zv ad')).toList := by cases r <;> rfl
    rw [e9] at K
    exact K
end ZHJ
end ZHand
