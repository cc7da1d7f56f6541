/-! ===== throw new E("..") where E's own constructor goes by any entry (NoSuchElementException's is 13) ===== -/
section ZThrowX
variable {p : Program} {l : Launch} {e : Env} {R : Room} {s : State} {m : MethodId} {args : Array Value} {below : List Frame} {meth : Method} {c : Code} {locs : List Loc} {cells slots : Nat}
set_option maxHeartbeats 2000000 in
theorem zx_ctor {V : State} (X : Stand p l e R s m args below meth c V locs cells slots) (hexec : p.tables.exec = Jvm.exec) (htr : e.platform.stackTraces = false) {own E : String} {nms : List String} {ic ix : Nat} {rx : ByteArray}
    (x0 : decode rx 0 = .ok (.aload_n 0, 1)) (x1 : decode rx 1 = .ok (.aload_n 1, 1)) (x2 : decode rx 2 = .ok (.invokespecial ix, 3)) (x5 : decode rx 5 = .ok (.return_, 1))
    (hown : s.vm.findClass own = some m.cls) (hE : Bundle.fit E = true) (hnms : ∀ n ∈ nms, Bundle.fit n = true) (hat : ∀ w ∈ Bundle.ownAtomsX own ic E ix rx nms, w.before args s = true)
    (hlo : ∀ z ∈ locs, ∀ q, s.heap[z.base]? = some q → q.vm.isStatics = false)
    {a : Addr} {cE : ClassId} {kE : Class} (fE : s.vm.findClass E = some cE) (gE : s.vm.classes[cE]? = some kE) (ha : V.heap[a]? = some (freshCell cE kE)) (hnew : s.heap.size ≤ a)
    {txt : Value} (htx : txt.isRef = true) {g : JFrame} (hg : g.method = m) (hsz : g.locals.size = c.maxLocals) (hlk : g.locked = none) (hen : g.entered = []) {rest : List Value} (hst : g.stack = txt :: .ref a :: .ref a :: rest)
    (d0 : decode c.code g.pc = .ok (.invokespecial ic, 3)) (d3 : decode c.code (g.pc + 3) = .ok (.athrow, 1)) (hcov : ∀ x ∈ c.exceptionTable.toList, covers x (g.pc + 3) = false)
    (hfr : nms.length + 3 < R.frames) (hro : 2 * g.monitorRoom + ((Value.ref a :: rest).map fun v => v.category).sum + (13 * (nms.length + 1) + 42) ≤ R.locals) (hml : meth.locks = false) :
    ∃ U : State, Steps p.tables e below (V.setTop g) U ∧ U.status = .running ∧ Ended U below (.threw a) ∧ s.WarmedH U.vm ∧ s.sameButNew ({ U with vm := s.vm } : State) locs cells slots ∧ ∃ ce, U.heap[a]? = some ce ∧ s.vm.findClass E = some ce.cls ∧ ce.vm = .none := by
  have pf := X.admits.platform
  have k1 : e.platform.frameOwnsMonitors = true := by rw [pf]
  have k2 : e.platform.finalization = false := by rw [pf]
  have k3 : e.platform.magicAccessors = ({} : Platform).magicAccessors := by rw [pf]
  have own_ : ∀ w, w ∈ ([.methodLink own ic (Bundle.initS E), .instantiable E 6, .castable E E, .selects E Bundle.tFill0 Bundle.tFill0, .selects E Bundle.tFill Bundle.tFill, .lays E Bundle.tN "cause" "Ljava/lang/Throwable;", .lays E Bundle.tN "stackTrace" Bundle.steD, .lays E Bundle.tN "suppressedExceptions" Bundle.listD, .lays E Bundle.tN "detailMessage" "Ljava/lang/String;", .isRef (.static Bundle.tN "UNASSIGNED_STACK" Bundle.steD), .isRef (.static Bundle.tN "SUPPRESSED_SENTINEL" Bundle.listD), .fieldLink Bundle.tN 198 Bundle.tN "backtrace" "Ljava/lang/Object;", .lays Bundle.tN Bundle.tN "backtrace" "Ljava/lang/Object;", .lays E Bundle.tN "backtrace" "Ljava/lang/Object;"] : List Jvm.Cond) → w.before args s = true := fun w hw => hat w (List.mem_append_right _ hw)
  obtain ⟨T, Z0, LT, -, Y⟩ := ThrowableC.of_atoms (args := args) k1 k2 k3 (fun w hw => hat w (List.mem_append_left _ (List.mem_append_left _ (List.mem_append_left _ hw))))
  obtain ⟨Z, Mg, LZ, LM, topZ⟩ := Init0T.ofS_atoms (args := args) k3 LT Y (fun w hw => hat w (List.mem_append_left _ (List.mem_append_left _ (List.mem_append_right _ hw))))
  have hch : ∀ w ∈ Bundle.chainSAtomsX E ix rx nms, w.before args s = true := fun w hw => hat w (List.mem_append_left _ (List.mem_append_right _ hw))
  obtain ⟨P, Ps, hlen, LP, LPs, hPm, hsup, hpass⟩ := Bundle.chainSX (args := args) k3 topZ x0 x1 x2 x5 nms E hE hnms hch
  have hin : ∀ w, w ∈ ([.instanceMethod (Bundle.initS E), .code (Bundle.initS E) rx 2 none] : List Jvm.Cond) → w.before args s = true := fun w hw => hch w (by
    cases nms with
    | nil => simp only [Bundle.chainSAtomsX, Bundle.passSAtoms]; simp only [List.mem_cons] at hw ⊢; rcases hw with h | h | h; exact Or.inl h; exact Or.inr (Or.inl h); cases h
    | cons Y r => simp only [Bundle.chainSAtomsX, Bundle.passSAtoms]; refine List.mem_append_left _ ?_; simp only [List.mem_cons] at hw ⊢; rcases hw with h | h | h; exact Or.inl h; exact Or.inr (Or.inl h); cases h)
  have fP : s.vm.findClass E = some P.m.cls := findClass_of_methodNamed hPm
  have eP : cE = P.m.cls := Option.some.inj (fE.symm.trans fP)
  subst eP
  obtain ⟨c1, k', f1, f2, hord, -, -, h6⟩ := Cond.instantiable_spec (own_ (.instantiable E 6) (by simp))
  have e1 : c1 = P.m.cls := Option.some.inj (f1.symm.trans fP)
  subst e1
  have e2 : kE = k' := Option.some.inj (gE.symm.trans f2)
  subst e2
  have sel : ∀ {y : MethodName} {mm : MethodId}, (Cond.selects E y y).before args s = true → s.methodNamed? y = some mm → (y.cls ≠ "java/lang/invoke/MethodHandle" ∧ y.cls ≠ "java/lang/invoke/VarHandle") → selectMethod e.platform s.vm P.m.cls mm = .method mm := fun {y mm} h hn hy => by
    obtain ⟨c2, r2, m2, q1, q2, q3, q4, -⟩ := Cond.selects_spec h
    have a1 := Option.some.inj (q1.symm.trans fP)
    have a2 := Option.some.inj (q2.symm.trans (State.methodFound?_of_named hn hy))
    have a3 := Option.some.inj (q3.symm.trans hn)
    rw [Launch.admits_selectMethod X.admits, ← a1, ← a2]
    rw [← a2] at a3
    rw [← a3] at q4 ⊢
    exact q4
  have s0 := sel (own_ (.selects E Bundle.tFill0 Bundle.tFill0) (by simp)) Y.fill0 (by decide)
  have sF := sel (own_ (.selects E Bundle.tFill Bundle.tFill) (by simp)) Y.fill (by decide)
  obtain ⟨cs, hcs, hstat⟩ := Y.statics
  obtain ⟨u0, hu0⟩ := Cond.staticRefV Y.unassigned LT.unassignedStatic LT.statics hcs hstat (own_ (.isRef (.static Bundle.tN "UNASSIGNED_STACK" Bundle.steD)) (by simp))
  obtain ⟨sn, hsn⟩ := Cond.staticRefV Y.sentinel LT.sentinelStatic LT.statics hcs hstat (own_ (.isRef (.static Bundle.tN "SUPPRESSED_SENTINEL" Bundle.listD)) (by simp))
  obtain ⟨ci9, i9, fB, b1, b2, b3, b4, -, b5, b6, b7⟩ := Cond.ownField (t := .object "java/lang/Object") Y.found LT.cls (by decide +kernel) (own_ (.fieldLink Bundle.tN 198 Bundle.tN "backtrace" "Ljava/lang/Object;") (by simp)) (own_ (.lays Bundle.tN Bundle.tN "backtrace" "Ljava/lang/Object;") (by simp)) e.platform k3
  obtain ⟨cs2, v1, v2, -, v3⟩ := X.same.2.2.2.2.2 T.aS cs hcs
  have vcell : V.heap[T.aS]? = some cs2 := v1
  have vout : ∀ i, (⟨T.aS, i⟩ : Loc) ∉ locs := fun i hi => by have h9 := hlo _ hi cs hcs; rw [hstat] at h9; cases h9
  have vkn : cs2.vm ≠ .unknown := by
    rw [v2]
    intro hu
    have h9 : cs.vm = .unknown := hu
    rw [h9] at hstat
    cases hstat
  have vne : T.aS ≠ a := Nat.ne_of_lt (Nat.lt_of_lt_of_le (Array.getElem?_eq_some_iff.mp hcs).1 hnew)
  obtain ⟨iM, fM⟩ := Y.msg
  obtain ⟨tC, dC, gC, nC⟩ := Cond.laysAt fP f2 Y.cause (own_ (.lays E Bundle.tN "cause" "Ljava/lang/Throwable;") (by simp))
  obtain ⟨tS, dS, gS, nS⟩ := Cond.laysAt fP f2 Y.stack (own_ (.lays E Bundle.tN "stackTrace" Bundle.steD) (by simp))
  obtain ⟨tP, dP, gP, nP⟩ := Cond.laysAt fP f2 Y.supp (own_ (.lays E Bundle.tN "suppressedExceptions" Bundle.listD) (by simp))
  obtain ⟨tM, dM, gM, nM⟩ := Cond.laysAt fP f2 fM (own_ (.lays E Bundle.tN "detailMessage" "Ljava/lang/String;") (by simp))
  obtain ⟨tB, dB, gB, nB⟩ := Cond.laysAt fP f2 b7 (own_ (.lays E Bundle.tN "backtrace" "Ljava/lang/Object;") (by simp))
  have apC := Cond.laysApart gB gC nB nC (by rw [b5, Y.causeName]; decide)
  have apS := Cond.laysApart gB gS nB nS (by rw [b5, Y.stackName]; decide)
  have apP := Cond.laysApart gB gP nB nP (by rw [b5, Y.suppName]; decide)
  have hskip : SkipFacts T e.platform s (fun u => u) u0 ((preparedCellV T.toThrowableT (freshCell P.m.cls kE) a u0 sn).withEntry V.cur) := by
    refine ⟨{ ci198 := ci9, i198 := i9, fBack := fB }, ⟨b1, b2, b3, b4⟩, ?_, fun _ _ => rfl⟩
    have h9 := fresh_default (c := P.m.cls) tB
    rw [b6] at h9
    simpa [preparedCellV, Cell.setSlot, Cell.withEntry, Array.getElem?_setIfInBounds, apC, apS, apP, apC.symm, apS.symm, apP.symm, defaultValue] using h9
  obtain ⟨tm, mC, cC, kC, vm1, hnC, -, -, -, -, -, -, -, W1, st1⟩ := Steps.initColdS (tb := p.tables) (e := e) (below := below) (s := s) (U := V) X.here hexec X.warmed k3 hown (t := Bundle.initS E) rfl rfl (Bundle.fit_spec hE).2 (own_ (.methodLink own ic (Bundle.initS E)) (by simp)) (hin (.instanceMethod (Bundle.initS E)) (by simp)) (bytes := rx) (maxL := 2) (hin (.code (Bundle.initS E) rx 2 none) (by simp)) (f := g) hg (a := a) (msg := txt) (rest := .ref a :: rest) hst d0
  have etm : tm = P.m := Option.some.inj (hnC.symm.trans hPm)
  subst etm
  have X1 := X.noted W1
  obtain ⟨vm2, X2, st2⟩ := X1.ctorMessageOffV hexec (g := { g with stack := .ref a :: rest }) hg hsz T LT Z LZ Mg LM (P :: Ps) (fun Q hQ => by rcases List.mem_cons.mp hQ with rfl | hQ; exact LP; exact LPs Q hQ) ⟨hsup, hpass⟩ (u0 := u0) (sen := sn) (self := a) htx (cell := freshCell P.m.cls kE) (cellS := cs2) ha (fun _ => by simp) (by simp) rfl rfl s0 sF vcell vne vkn (by rw [v3 _ (vout _)]; exact hu0) (by rw [v3 _ (vout _)]; exact hsn)
    (Takes.of_laid f2 hord tC (by rw [Y.causeType]; rfl)) (Takes.of_laid f2 hord tS (by rw [Y.stackType]; exact fits_refV_array _ u0)) (Takes.of_laid f2 hord tP (by rw [Y.suppType]; exact fits_refV_object _ sn)) (Takes.of_laid f2 hord tM (by rw [Y.msgType]; exact fits_refV_object _ ⟨txt, htx⟩)) Y.objLocals hskip htr [] d0 (by simp only [List.length_cons, hlen]; omega) (by simp only [List.length_cons, hlen]; exact hro)
  obtain ⟨w1, w2, w3, w4, w5⟩ := X2.athrowLeaves hexec (g := { g with stack := .ref a :: rest, pc := g.pc + 3 }) hg hlk hen hcov (a := a) (rest := rest) rfl d3 hml
  have hlt : a < ((V.setVm vm1).setVm vm2).heap.size := (Array.getElem?_eq_some_iff.mp ha).1
  refine ⟨_, st1 _ (fun acts => by rw [doInvoke_state]; exact st2 _ w1), w2, w3, w4, w5.weaken (fun y hy hy2 => ?_) (Nat.le_refl _) (Nat.le_refl _), _, heapAt_setCell_self (s := (V.setVm vm1).setVm vm2) (plainBareV T.toThrowableT (freshCell P.m.cls kE) a u0 sn txt) hlt, fP, rfl⟩
  rcases List.mem_append.mp hy with h1 | h1
  · exact h1
  · exfalso
    have hb : y.base = a := by
      simp only [List.mem_cons, List.not_mem_nil, or_false] at h1
      rcases h1 with rfl | rfl | rfl | rfl | rfl <;> rfl
    rw [hb] at hy2
    exact Nat.not_lt.mpr hnew hy2
def vx_atX (own : String) (ic : Nat) (X : String) (ix : Nat) (rx : ByteArray) (names : List String) : List Cond := (Bundle.ownAtomsX own ic X ix rx names).filter vx_no
set_option maxHeartbeats 2000000 in
theorem zx_throw {H : Heap} {ls : Array Slot} {rest : List Value} {Qc : Array Value → State → Outcome → State → Prop} {XC : String → State → State → Prop} {free : Addr → Prop} {cc : ByteArray} {pc : Nat} (hexec : p.tables.exec = Jvm.exec) (hb : c.code = cc) (hl : l.stackTraces = false) {own E txt : String} {nms : List String} {ik is ic ix mc ms sa : Nat} {rx : ByteArray} {A : Nat → Prop}
    (x0 : decode rx 0 = .ok (.aload_n 0, 1)) (x1 : decode rx 1 = .ok (.aload_n 1, 1)) (x2 : decode rx 2 = .ok (.invokespecial ix, 3)) (x5 : decode rx 5 = .ok (.return_, 1))
    (hown : s.vm.findClass own = some m.cls) (hE : Bundle.fit E = true) (hnms : ∀ n ∈ nms, Bundle.fit n = true)
    (hk : (Cond.classLink own ik E).before args s = true) (hini : (Cond.initialized E).before args s = true) (hstr : vk_R own is txt sa s) (hat : ∀ w ∈ vx_atX own ic E ix rx nms, w.before args s = true)
    (hgood : ∀ w ∈ Cond.classLink own ik E :: Cond.initialized E :: vx_atX own ic E ix rx nms, vx_ot w = true)
    (hU : vx_Zq Bundle.tN "UNASSIGNED_STACK" Bundle.steD A s s.heap) (hN : vx_Zq Bundle.tN "SUPPRESSED_SENTINEL" Bundle.listD A s s.heap) (hS : va_S A s.heap H locs) (hsize : ls.size = c.maxLocals)
    (d0 : decode cc pc = .ok (.new ik, 3)) (d3 : decode cc (pc + 3) = .ok (.dup, 1)) (d4 : decode cc (pc + 4) = .ok (.ldc_w is, 3)) (d7 : decode cc (pc + 7) = .ok (.invokespecial ic, 3)) (d10 : decode cc (pc + 10) = .ok (.athrow, 1))
    (hout : ∀ x ∈ c.exceptionTable.toList, covers x (pc + 10) = false)
    (hRf : nms.length + 3 < R.frames) (hRl : (rest.map fun v => v.category).sum + (13 * (nms.length + 1) + 43) ≤ R.locals) (hRc : cells + 1 ≤ R.cells) (hRs : slots + 6 ≤ R.slots) (hlocks : meth.locks = false)
    (hx : ∀ t : State, s.vm.Alike t.vm → H.size ≤ t.heap.size → (∀ q : Nat, q < H.size → t.heap[q]? = H[q]?) → XC E s t)
    (hf : ∀ z ∈ locs, free z.base) (hc : cells + 1 ≤ mc) (hs : slots + 6 ≤ ms) :
    W p l e R s m args below meth c H locs cells slots (vx_MQ below Qc XC args s mc ms free) (F0 m pc ls rest) := by
  intro T hT X
  have htr : e.platform.stackTraces = false := (show e.platform.stackTraces = l.stackTraces by rw [X.admits.platform]).trans hl
  have Y := vx_rebase X (R' := { frames := R.frames, locals := R.locals, cells := 1, slots := 6 }) (Nat.le_refl _) (Nat.le_refl _) hRc hRs
  obtain ⟨u, hA⟩ : ∃ z, z = (T.setVm s.vm).setFrames (.invoking m args :: below) := ⟨_, rfl⟩
  rw [← hA] at Y
  have hvm : u.vm = s.vm := by rw [hA]; rfl
  have hhp : u.heap = H := by rw [hA]; exact hT
  have hW0 : s.WarmedH u.vm := by rw [hvm]; exact State.WarmedH.refl s
  have mv : ∀ w, w ∈ Cond.classLink own ik E :: Cond.initialized E :: vx_atX own ic E ix rx nms → w.before args s = true → w.before args u = true := fun w hw h9 => vx_ot_at hW0 hvm.symm (hgood w hw) h9
  have hU' : vx_Zq Bundle.tN "UNASSIGNED_STACK" Bundle.steD A u u.heap := by rw [hhp]; exact vx_Zq.moved hW0.alike (hU.kept hS.2.1)
  have hN' : vx_Zq Bundle.tN "SUPPRESSED_SENTINEL" Bundle.listD A u u.heap := by rw [hhp]; exact vx_Zq.moved hW0.alike (hN.kept hS.2.1)
  have hall : ∀ w ∈ Bundle.ownAtomsX own ic E ix rx nms, w.before args u = true := vx_own (fun w hw => mv w (List.mem_cons_of_mem _ (List.mem_cons_of_mem _ hw)) (hat w hw)) (vx_isRefq hU'.1) (vx_isRefq hN'.1) hU'.2.word hN'.2.word
  have hown' : u.vm.findClass own = some m.cls := by rw [hvm]; exact hown
  obtain ⟨vm1, cE, kE, hfE, hkE, -, -, X1, st1⟩ := Y.newCold hexec (own := own) (C := E) (index := ik) (n := 6) hown' (mv _ List.mem_cons_self hk) (hall _ (by simp [Bundle.ownAtomsX])) (mv _ (List.mem_cons_of_mem _ List.mem_cons_self) hini) (g := F0 m pc ls rest) rfl (by rw [hb]; exact d0) (Nat.le_refl _) (Nat.le_refl _)
  generalize hT1 : (T.setVm vm1).pushCell { cls := cE, slots := kE.instanceTypes.map defaultValue, vm := .none } = T1 at X1 st1
  have hcat : (Value.ref T.heap.size).category = 1 := rfl
  have hcell : T1.heap[T.heap.size]? = some (freshCell cE kE) := by rw [← hT1]; exact State.heap_pushCell_size _ _
  have d3' : decode c.code (pc + 3) = .ok (.dup, 1) := by rw [hb]; exact d3
  have d4' : decode c.code (pc + 4) = .ok (.ldc_w is, 3) := by rw [hb]; exact d4
  have hstr' : vk_R own is txt sa u := vk_R.warm hW0 hstr
  obtain ⟨U, y1, y2, y3, y4, y5, ce, y6, y7, y8⟩ := zx_ctor X1 hexec htr x0 x1 x2 x5 (own := own) (E := E) (nms := nms) (ic := ic) hown' hE hnms hall (fun x hx => nomatch hx) hfE hkE hcell (by rw [hhp, hT]; exact Nat.le_refl _) (txt := .ref sa) rfl
    (g := { method := m, pc := pc + 7, locals := ls, stack := .ref sa :: .ref T.heap.size :: .ref T.heap.size :: rest, locked := none }) rfl hsize rfl rfl (rest := rest) rfl (by rw [hb]; exact d7) (by rw [hb]; exact d10) hout hRf (by simp only [List.map_cons, List.sum_cons, hcat]; omega) hlocks
  obtain ⟨f1, f2⟩ := vx_frame y5
  rw [hhp] at f1 f2
  have hWs : s.WarmedH U.vm := State.WarmedH.trans hW0 y4
  have hcl : s.vm.findClass E = some ce.cls := by rw [hvm] at y7; exact y7
  have hsame : s.sameButNew ({ U with vm := s.vm } : State) locs mc ms := by
    subst hA
    obtain ⟨e1, e2⟩ := y5
    rw [State.setFrames_setFrames] at e1
    have h2 : (T.setVm s.vm).sameButNew ({ U with vm := s.vm } : State) [] (0 + 1) (0 + 6) := ⟨e1, e2⟩
    have h3 := X.same.trans h2
    rw [List.append_nil] at h3
    exact h3.mono hc hs
  refine ⟨U, ?_, .threw T.heap.size, y2, y3, Or.inr ⟨T.heap.size, rfl, E, ce, locs, hx U hWs.alike f1 (fun q hq => f2 q hq (fun z hz => nomatch hz)), y6, y8, hcl, hWs, hsame, hf⟩⟩
  refine st1 _ ?_
  show Steps p.tables e below (T1.setTop { method := m, pc := pc + 3, locals := ls, stack := .ref T.heap.size :: rest, locked := none }) _
  jvm_step X1.here [X1.here.top, hexec, d3', Value.category]
  exact X1.ldcStringW hexec (own := own) (text := txt) (index := is) (a := sa) hown' hstr'.1 hstr'.2 (g := { method := m, pc := pc + 4, locals := ls, stack := .ref T.heap.size :: .ref T.heap.size :: rest, locked := none }) rfl d4' _ y1
end ZThrowX
