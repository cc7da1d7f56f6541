/-! ===== steps that read and write the heap ===== -/
/-- what a program has checked of a class -/
def zCl (ci : Nat) (C : String) (T : u_T) (N : Nat) : Prop := vwCl[ci]? = some (C, T, N) ∧ (∀ w ∈ u_ws C T N, w ∈ zGT) ∧ (∃ ty0 : Nat → FieldType, (∀ k, k < N → parseFieldDescriptor (T k).2.2.1 = some (ty0 k)) ∧ ∀ k, k < N → defaultValue (ty0 k) = if (zfl ci).getD k false then .int 0 else .null) ∧ (∀ a, a < N → ∀ b, b < N → a ≠ b → (T a).2.1 ≠ (T b).2.1) ∧ (zfl ci).length = N ∧ (∀ k, k < N → (zfl ci)[k]? = some true → (T k).2.2.1 = "I" ∧ (T k).2.2.2 = false)
def zLF (own : String) (idx ci k : Nat) : Prop := ∃ (C : String) (T : u_T) (N : Nat), zCl ci C T N ∧ k < N ∧ Cond.fieldLink own idx (T k).1 (T k).2.1 (T k).2.2.1 ∈ zGT
theorem zc_o {ad : Nat → Nat} {cT : Nat → ClassId} {h : zH} {k ci : Nat} (hs : h.2.2.1 k = .inl ci) : zc ad cT h k = .inr (ci, zfs ad h k (zfl ci)) := by simp [zc, hs]
theorem zc_i {ad : Nat → Nat} {cT : Nat → ClassId} {h : zH} {k N : Nat} (hs : h.2.2.1 k = .inr (0, N)) : zc ad cT h k = .inl (cT 0, N, .inl (h.1 k)) := by simp [zc, hs]
theorem zc_l {ad : Nat → Nat} {cT : Nat → ClassId} {h : zH} {k N : Nat} (hs : h.2.2.1 k = .inr (1, N)) : zc ad cT h k = .inl (cT 1, N, .inr (.inl (h.2.2.2.2 k))) := by simp [zc, hs]
theorem zc_q {ad : Nat → Nat} {cT : Nat → ClassId} {h : zH} {k N t : Nat} (ht : t < 2) (hs : h.2.2.1 k = .inr (t + 2, N)) : zc ad cT h k = .inl (cT (t + 2), N, .inr (.inr (.inr (.inr (fun j => (h.2.2.2.1 k j).map ad))))) := by
  rcases (show t = 0 ∨ t = 1 by omega) with rfl | rfl <;> simp [zc, hs]
theorem zc_z {ad : Nat → Nat} {cT : Nat → ClassId} {h : zH} {k N : Nat} (hs : h.2.2.1 k = .inr (4, N)) : zc ad cT h k = .inl (cT 4, N, .inl (h.1 k)) := by simp [zc, hs]
theorem zfs_at {ad : Nat → Nat} {h : zH} {a k : Nat} {bs : List Bool} {b : Bool} (hb : bs[k]? = some b) : (zfs ad h a bs)[k]? = some (if b then .int (h.1 a k) else va_rf ((h.2.2.2.1 a k).map ad)) := by
  simp [zfs, List.getElem?_mapIdx, hb]
/-- one int of a cell -/
def zup (I : Nat → Nat → Int32) (a j : Nat) (x : Int32) : Nat → Nat → Int32 := va_up I a (upd (I a) j x)
theorem zc_up {ad : Nat → Nat} {cT : Nat → ClassId} {h : zH} {a j : Nat} {f : Nat → Int32} (hne : j ≠ a) : zc ad cT (va_up h.1 a f, h.2) j = zc ad cT h j := by
  simp only [zc, zfs, va_up, if_neg hne]
theorem zpw_put {D : va_G} {cT : Nat → ClassId} {ao ad : Nat → Nat} {h h' : zH} {A : Nat → Prop} {s : State} {H H1 : Heap} {k : Nat} {e : va_E} (hP : zpw D cT ao ad h A s H) (hk : k < h.2.1) (hn : h'.2.1 = h.2.1) (he : zc ad cT h' k = e) (ho : ∀ j, j ≠ k → zc ad cT h' j = zc ad cT h j) (hJ : ∀ k j a, h'.2.2.2.1 k j = some a → a < h'.2.1)
    (h1 : va_P D vwCl ((zw ad cT h).set k (ad k, e)) H1) (h2 : va_D A ((zw ad cT h).set k (ad k, e))) : zpw D cT ao ad h' A s H1 := by
  subst he
  rw [zw_set hk hn ho] at h1 h2
  exact ⟨hP.1, h1, h2, hP.2.2.2.1, hJ, by rw [hn]; exact hP.2.2.2.2.2⟩
theorem zfs_set {ad : Nat → Nat} {h : zH} {a k : Nat} {x : Int32} {bs : List Bool} (hb : bs[k]? = some true) : (zfs ad h a bs).set k (.int x) = zfs ad (zup h.1 a k x, h.2) a bs := by
  apply List.ext_getElem?
  intro j
  have hlt : k < bs.length := (List.getElem?_eq_some_iff.mp hb).1
  by_cases e : j = k
  · subst e
    rw [List.getElem?_set_self (by simpa [zfs] using hlt), zfs_at hb]
    simp [zup, va_up, upd]
  · rw [List.getElem?_set_ne (Ne.symm e)]
    simp only [zfs, List.getElem?_mapIdx]
    congr 1
    funext b
    simp [zup, va_up, upd, e]
section ZH
variable {l : Launch} {Xi : zXi} {M : zM} {d kc ks pc : Nat} {Ls : List (Option Value)} {S : List Value} {h : zH} {post : zR → zH → Prop}
theorem zJ_geti {idx ci k a : Nat} (lk : zLF M.1 idx ci k) (ha : a < h.2.1) (hs : h.2.2.1 a = .inl ci) (hb : (zfl ci)[k]? = some true) (hd : decode M.2.2.1 pc = .ok (.getfield idx, 3)) (kk : zJ l Xi M d kc ks (pc + 3) Ls (.int (h.1 a k) :: S) h post) : zJ l Xi M d kc ks pc Ls (.ref a :: S) h post := by
  intro p e R s m args below meth c H locs cells slots ls D cT ao ad A n0 ad0 E hc hs1 hS hP hn he hl hv
  obtain ⟨C, T, N, hcl, hk, hw⟩ := lk
  refine va_get (D := D) E.1 E.2.1 E.2.2.2.2.2.2.1 hcl.2.1 E.2.2.2.2.2.1 hP.1 hP.2.1 a ((zw_at ha).trans (by rw [zc_o hs])) hcl.1 k hk (E.2.2.2.2.2.2.1 _ hw) (fun _ q => q) (zfs_at hb) hd ?_
  exact kk p e R s m args below meth c H locs cells slots ls D cT ao ad A n0 ad0 E hc hs1 hS hP hn he hl (fun v q => by rcases List.mem_cons.mp q with rfl | q; exact trivial; exact hv v (List.mem_cons_of_mem _ q))
theorem zJ_getr {idx ci k a b : Nat} (lk : zLF M.1 idx ci k) (ha : a < h.2.1) (hs : h.2.2.1 a = .inl ci) (hb : (zfl ci)[k]? = some false) (hj : h.2.2.2.1 a k = some b) (hd : decode M.2.2.1 pc = .ok (.getfield idx, 3)) (kk : zJ l Xi M d kc ks (pc + 3) Ls (.ref b :: S) h post) : zJ l Xi M d kc ks pc Ls (.ref a :: S) h post := by
  intro p e R s m args below meth c H locs cells slots ls D cT ao ad A n0 ad0 E hc hs1 hS hP hn he hl hv
  obtain ⟨C, T, N, hcl, hk, hw⟩ := lk
  refine va_get (D := D) E.1 E.2.1 E.2.2.2.2.2.2.1 hcl.2.1 E.2.2.2.2.2.1 hP.1 hP.2.1 a ((zw_at ha).trans (by rw [zc_o hs])) hcl.1 k hk (E.2.2.2.2.2.2.1 _ hw) (fun _ q => q) (zfs_at hb) hd ?_
  rw [hj]
  exact kk p e R s m args below meth c H locs cells slots ls D cT ao ad A n0 ad0 E hc hs1 hS hP hn he hl (fun v q => by rcases List.mem_cons.mp q with rfl | q; exact Or.inl (hP.2.2.2.2.1 _ _ _ hj); exact hv v (List.mem_cons_of_mem _ q))
theorem zJ_puti {idx ci k a : Nat} {x : Int32} (lk : zLF M.1 idx ci k) (ha : a < h.2.1) (hs : h.2.2.1 a = .inl ci) (hb : (zfl ci)[k]? = some true) (hd : decode M.2.2.1 pc = .ok (.putfield idx, 3)) (kk : zJ l Xi M d kc ks (pc + 3) Ls S (zup h.1 a k x, h.2) post) : zJ l Xi M d kc ks pc Ls (.int x :: .ref a :: S) h post := by
  intro p e R s m args below meth c H locs cells slots ls D cT ao ad A n0 ad0 E hc hs1 hS hP hn he hl hv
  obtain ⟨C, T, N, hcl, hk, hw⟩ := lk
  obtain ⟨ty0, hty, -⟩ := hcl.2.2.1
  have hI := hcl.2.2.2.2.2 k hk hb
  have hlen : k < (zfs ad h a (zfl ci)).length := by simpa [zfs, hcl.2.2.2.2.1] using hk
  refine va_put (D := D) E.1 E.2.1 E.2.2.2.2.2.2.1 hcl.2.1 ty0 hty hcl.2.2.2.1 E.2.2.2.2.2.1 hP.1 hP.2.1 hP.2.2.1 hS a ((zw_at ha).trans (by rw [zc_o hs])) hcl.1 k hk (E.2.2.2.2.2.2.1 _ hw) (fun _ q => q) hI.2 (ty := .int) (by rw [hI.1]; decide +kernel) rfl rfl hlen hd (fun H1 locs1 h1 h2 h3 => ?_)
  exact kk p e R s m args below meth c H1 locs1 cells slots ls D cT ao ad A n0 ad0 E hc hs1 h3 (zpw_put (h' := (zup h.1 a k x, h.2)) hP ha rfl ((zc_o (h := (zup h.1 a k x, h.2)) hs).trans (by rw [← zfs_set hb]; rfl)) (fun j hj => zc_up hj) hP.2.2.2.2.1 h1 h2) hn he hl (fun v q => hv v (List.mem_cons_of_mem _ (List.mem_cons_of_mem _ q)))
theorem zJ_iald {a N : Nat} {i : Int32} (ha : a < h.2.1) (hs : h.2.2.1 a = .inr (0, N)) (hin : vp_in i N) (hd : decode M.2.2.1 pc = .ok (.iaload, 1)) (kk : zJ l Xi M d kc ks (pc + 1) Ls (.int (h.1 a i.toNatClampNeg) :: S) h post) : zJ l Xi M d kc ks pc Ls (.int i :: .ref a :: S) h post := by
  intro p e R s m args below meth c H locs cells slots ls D cT ao ad A n0 ad0 E hc hs1 hS hP hn he hl hv
  refine va_iald (D := D) E.1 E.2.1 hP.1 hP.2.1 a 0 ((zw_at ha).trans (by rw [zc_i hs])) rfl hin hd ?_
  exact kk p e R s m args below meth c H locs cells slots ls D cT ao ad A n0 ad0 E hc hs1 hS hP hn he hl (fun v q => by rcases List.mem_cons.mp q with rfl | q; exact trivial; exact hv v (List.mem_cons_of_mem _ (List.mem_cons_of_mem _ q)))
theorem zJ_iast {a N : Nat} {i x : Int32} (ha : a < h.2.1) (hs : h.2.2.1 a = .inr (0, N)) (hin : vp_in i N) (hd : decode M.2.2.1 pc = .ok (.iastore, 1)) (kk : zJ l Xi M d kc ks (pc + 1) Ls S (zup h.1 a i.toNatClampNeg x, h.2) post) : zJ l Xi M d kc ks pc Ls (.int x :: .int i :: .ref a :: S) h post := by
  intro p e R s m args below meth c H locs cells slots ls D cT ao ad A n0 ad0 E hc hs1 hS hP hn he hl hv
  refine va_iast (D := D) E.1 E.2.1 hP.1 hP.2.1 hP.2.2.1 hS a 0 ((zw_at ha).trans (by rw [zc_i hs])) rfl hin hd (fun H1 locs1 h1 h2 h3 => ?_)
  exact kk p e R s m args below meth c H1 locs1 cells slots ls D cT ao ad A n0 ad0 E hc hs1 h3 (zpw_put (h' := (zup h.1 a i.toNatClampNeg x, h.2)) hP ha rfl ((zc_i (h := (zup h.1 a i.toNatClampNeg x, h.2)) hs).trans (by simp [zup, va_up])) (fun j hj => zc_up hj) hP.2.2.2.2.1 h1 h2) hn he hl (fun v q => hv v (List.mem_cons_of_mem _ (List.mem_cons_of_mem _ (List.mem_cons_of_mem _ q))))
theorem zJ_zald {a N : Nat} {i : Int32} (ha : a < h.2.1) (hs : h.2.2.1 a = .inr (4, N)) (hin : vp_in i N) (hd : decode M.2.2.1 pc = .ok (.baload, 1)) (kk : zJ l Xi M d kc ks (pc + 1) Ls (.int (h.1 a i.toNatClampNeg) :: S) h post) : zJ l Xi M d kc ks pc Ls (.int i :: .ref a :: S) h post := by
  intro p e R s m args below meth c H locs cells slots ls D cT ao ad A n0 ad0 E hc hs1 hS hP hn he hl hv
  refine va_zald (D := D) E.1 E.2.1 hP.1 hP.2.1 a 4 ((zw_at ha).trans (by rw [zc_z hs])) rfl hin hd ?_
  exact kk p e R s m args below meth c H locs cells slots ls D cT ao ad A n0 ad0 E hc hs1 hS hP hn he hl (fun v q => by rcases List.mem_cons.mp q with rfl | q; exact trivial; exact hv v (List.mem_cons_of_mem _ (List.mem_cons_of_mem _ q)))
theorem zJ_zast {a N : Nat} {i x : Int32} (ha : a < h.2.1) (hs : h.2.2.1 a = .inr (4, N)) (hin : vp_in i N) (hx : x = 0 ∨ x = 1) (hd : decode M.2.2.1 pc = .ok (.bastore, 1)) (kk : zJ l Xi M d kc ks (pc + 1) Ls S (zup h.1 a i.toNatClampNeg x, h.2) post) : zJ l Xi M d kc ks pc Ls (.int x :: .int i :: .ref a :: S) h post := by
  intro p e R s m args below meth c H locs cells slots ls D cT ao ad A n0 ad0 E hc hs1 hS hP hn he hl hv
  have hnar : vp_nar .boolean x = x := by rcases hx with rfl | rfl <;> decide
  refine va_zast (D := D) E.1 E.2.1 hP.1 hP.2.1 hP.2.2.1 hS a 4 ((zw_at ha).trans (by rw [zc_z hs])) rfl hin hd (fun H1 locs1 h1 h2 h3 => ?_)
  rw [hnar] at h1 h2
  exact kk p e R s m args below meth c H1 locs1 cells slots ls D cT ao ad A n0 ad0 E hc hs1 h3 (zpw_put (h' := (zup h.1 a i.toNatClampNeg x, h.2)) hP ha rfl ((zc_z (h := (zup h.1 a i.toNatClampNeg x, h.2)) hs).trans (by simp [zup, va_up])) (fun j hj => zc_up hj) hP.2.2.2.2.1 h1 h2) hn he hl (fun v q => hv v (List.mem_cons_of_mem _ (List.mem_cons_of_mem _ (List.mem_cons_of_mem _ q))))
theorem zJ_lald {a N : Nat} {i : Int32} (ha : a < h.2.1) (hs : h.2.2.1 a = .inr (1, N)) (hin : vp_in i N) (hd : decode M.2.2.1 pc = .ok (.laload, 1)) (kk : zJ l Xi M d kc ks (pc + 1) Ls (.long (h.2.2.2.2 a i.toNatClampNeg) :: S) h post) : zJ l Xi M d kc ks pc Ls (.int i :: .ref a :: S) h post := by
  intro p e R s m args below meth c H locs cells slots ls D cT ao ad A n0 ad0 E hc hs1 hS hP hn he hl hv
  refine va_lald (D := D) E.1 E.2.1 hP.1 hP.2.1 a 1 ((zw_at ha).trans (by rw [zc_l hs])) rfl hin hd ?_
  exact kk p e R s m args below meth c H locs cells slots ls D cT ao ad A n0 ad0 E hc hs1 hS hP hn he hl (fun v q => by rcases List.mem_cons.mp q with rfl | q; exact trivial; exact hv v (List.mem_cons_of_mem _ (List.mem_cons_of_mem _ q)))
theorem zc_upL {ad : Nat → Nat} {cT : Nat → ClassId} {h : zH} {a j : Nat} {f : Nat → Int64} (hne : j ≠ a) : zc ad cT (h.1, h.2.1, h.2.2.1, h.2.2.2.1, va_up h.2.2.2.2 a f) j = zc ad cT h j := by
  simp only [zc, zfs, va_up, if_neg hne]
theorem zJ_last {a N : Nat} {i : Int32} {x : Int64} (ha : a < h.2.1) (hs : h.2.2.1 a = .inr (1, N)) (hin : vp_in i N) (hd : decode M.2.2.1 pc = .ok (.lastore, 1)) (kk : zJ l Xi M d kc ks (pc + 1) Ls S (h.1, h.2.1, h.2.2.1, h.2.2.2.1, va_up h.2.2.2.2 a (vp_updL (h.2.2.2.2 a) i.toNatClampNeg x)) post) : zJ l Xi M d kc ks pc Ls (.long x :: .int i :: .ref a :: S) h post := by
  intro p e R s m args below meth c H locs cells slots ls D cT ao ad A n0 ad0 E hc hs1 hS hP hn he hl hv
  refine va_last (D := D) E.1 E.2.1 hP.1 hP.2.1 hP.2.2.1 hS a 1 ((zw_at ha).trans (by rw [zc_l hs])) rfl hin hd (fun H1 locs1 h1 h2 h3 => ?_)
  exact kk p e R s m args below meth c H1 locs1 cells slots ls D cT ao ad A n0 ad0 E hc hs1 h3 (zpw_put (h' := (h.1, h.2.1, h.2.2.1, h.2.2.2.1, va_up h.2.2.2.2 a (vp_updL (h.2.2.2.2 a) i.toNatClampNeg x))) hP ha rfl ((zc_l (h := (h.1, h.2.1, h.2.2.1, h.2.2.2.1, va_up h.2.2.2.2 a (vp_updL (h.2.2.2.2 a) i.toNatClampNeg x))) hs).trans (by simp [va_up])) (fun j hj => zc_upL hj) hP.2.2.2.2.1 h1 h2) hn he hl (fun v q => hv v (List.mem_cons_of_mem _ (List.mem_cons_of_mem _ (List.mem_cons_of_mem _ q))))
/-- an array of references: what lies there -/
theorem zJ_aaldW {a N t : Nat} {i : Int32} (ht : t < 2) (ha : a < h.2.1) (hs : h.2.2.1 a = .inr (t + 2, N)) (hin : vp_in i N) (hd : decode M.2.2.1 pc = .ok (.aaload, 1)) {v : Value} (hv0 : v = va_rf (h.2.2.2.1 a i.toNatClampNeg)) (kk : zJ l Xi M d kc ks (pc + 1) Ls (v :: S) h post) : zJ l Xi M d kc ks pc Ls (.int i :: .ref a :: S) h post := by
  intro p e R s m args below meth c H locs cells slots ls D cT ao ad A n0 ad0 E hc hs1 hS hP hn he hl hv
  have hlt : i.toNatClampNeg < N := Nat.not_le.mp fun q => hin (Or.inr q)
  have hzv : zv ad v = va_rf ((h.2.2.2.1 a i.toNatClampNeg).map ad) := by
    rw [hv0]; cases h.2.2.2.1 a i.toNatClampNeg <;> rfl
  have hok : zok h.2.1 v := by
    rw [hv0]
    cases hj : h.2.2.2.1 a i.toNatClampNeg with
    | none => exact trivial
    | some b => exact Or.inl (hP.2.2.2.2.1 _ _ _ hj)
  have K := kk p e R s m args below meth c H locs cells slots ls D cT ao ad A n0 ad0 E hc hs1 hS hP hn he hl (fun v q => by rcases List.mem_cons.mp q with rfl | q; exact hok; exact hv v (List.mem_cons_of_mem _ (List.mem_cons_of_mem _ q)))
  rw [List.map_cons, hzv] at K
  have ha' : (zw ad cT h)[a]? = some (ad a, .inl (cT (t + 2), N, .inr (.inr (.inr (.inr (fun j => (h.2.2.2.1 a j).map ad)))))) := (zw_at ha).trans (by rw [zc_q ht hs])
  rcases (show t = 0 ∨ t = 1 by omega) with rfl | rfl
  · exact va_aldq (D := D) E.1 E.2.1 hP.1 hP.2.1 a 2 ha' rfl hin hd K
  · exact W.aald (v := va_rf ((h.2.2.2.1 a i.toNatClampNeg).map ad)) (ty := .array .int) E.1 E.2.1 (hP.2.1 a _ ha') ((hP.1.2 3 _ rfl).1 N (fun j => va_rf ((h.2.2.2.1 a j).map ad))) rfl (fun q => by cases q) (by show ¬ (i < 0 ∨ (arrV _ _ _).slots.size ≤ _); rw [arrV_size]; exact hin) (by show (arrV _ _ _).slots[_]? = _; rw [arrV_read _ _ hlt]) rfl rfl hd K
theorem zJ_aald {a N t b : Nat} {i : Int32} (ht : t < 2) (ha : a < h.2.1) (hs : h.2.2.1 a = .inr (t + 2, N)) (hin : vp_in i N) (hj : h.2.2.2.1 a i.toNatClampNeg = some b) (hd : decode M.2.2.1 pc = .ok (.aaload, 1)) (kk : zJ l Xi M d kc ks (pc + 1) Ls (.ref b :: S) h post) : zJ l Xi M d kc ks pc Ls (.int i :: .ref a :: S) h post := zJ_aaldW ht ha hs hin hd (by rw [hj]; rfl) kk
theorem zJ_aaldN {a N t : Nat} {i : Int32} (ht : t < 2) (ha : a < h.2.1) (hs : h.2.2.1 a = .inr (t + 2, N)) (hin : vp_in i N) (hj : h.2.2.2.1 a i.toNatClampNeg = none) (hd : decode M.2.2.1 pc = .ok (.aaload, 1)) (kk : zJ l Xi M d kc ks (pc + 1) Ls (.null :: S) h post) : zJ l Xi M d kc ks pc Ls (.int i :: .ref a :: S) h post := zJ_aaldW ht ha hs hin hd (by rw [hj]; rfl) kk
theorem zc_upJ {ad : Nat → Nat} {cT : Nat → ClassId} {h : zH} {a j : Nat} {f : Nat → Option Nat} (hne : j ≠ a) : zc ad cT (h.1, h.2.1, h.2.2.1, va_up h.2.2.2.1 a f, h.2.2.2.2) j = zc ad cT h j := by
  simp only [zc, zfs, va_up, if_neg hne]
/-- State[i] = a State -/
theorem zJ_aast {a b N : Nat} {i : Int32} (ha : a < h.2.1) (hs : h.2.2.1 a = .inr (2, N)) (hb : b < h.2.1) (hbs : h.2.2.1 b = .inl 8) (hin : vp_in i N) (hd : decode M.2.2.1 pc = .ok (.aastore, 1)) (kk : zJ l Xi M d kc ks (pc + 1) Ls S (h.1, h.2.1, h.2.2.1, va_up h.2.2.2.1 a (va_up (h.2.2.2.1 a) i.toNatClampNeg (some b)), h.2.2.2.2) post) : zJ l Xi M d kc ks pc Ls (.ref b :: .int i :: .ref a :: S) h post := by
  intro p e R s m args below meth c H locs cells slots ls D cT ao ad A n0 ad0 E hc hs1 hS hP hn he hl hv
  refine va_astq (D := D) E.1 E.2.1 hP.1 hP.2.1 hP.2.2.1 hS a 2 b 8 (r := (RX8, TX8, 6)) ((zw_at ha).trans (by rw [zc_q (t := 0) (by decide) hs])) rfl ((zw_at hb).trans (by rw [zc_o hbs])) rfl hin hd (fun H1 locs1 h1 h2 h3 => ?_)
  refine kk p e R s m args below meth c H1 locs1 cells slots ls D cT ao ad A n0 ad0 E hc hs1 h3 (zpw_put (h' := (h.1, h.2.1, h.2.2.1, va_up h.2.2.2.1 a (va_up (h.2.2.2.1 a) i.toNatClampNeg (some b)), h.2.2.2.2)) hP ha rfl ((zc_q (t := 0) (h := (h.1, h.2.1, h.2.2.1, va_up h.2.2.2.1 a (va_up (h.2.2.2.1 a) i.toNatClampNeg (some b)), h.2.2.2.2)) (by decide) hs).trans ?_) (fun j hj => zc_upJ hj) ?_ h1 h2) hn he hl (fun v q => hv v (List.mem_cons_of_mem _ (List.mem_cons_of_mem _ (List.mem_cons_of_mem _ q))))
  · refine congrArg (fun f : Nat → Option Nat => (Sum.inl (cT 2, N, Sum.inr (Sum.inr (Sum.inr (Sum.inr f)))) : va_E)) (funext fun j => ?_)
    by_cases e : j = i.toNatClampNeg <;> simp [va_up, e]
  · intro k j x hx
    by_cases e1 : k = a
    · subst e1
      by_cases e2 : j = i.toNatClampNeg
      · simp [va_up, e2] at hx
        subst hx
        exact hb
      · simp [va_up, e2] at hx
        exact hP.2.2.2.2.1 _ _ _ hx
    · simp [va_up, e1] at hx
      exact hP.2.2.2.2.1 _ _ _ hx
theorem zJ_alen {a N t : Nat} (ht : t < 4) (ha : a < h.2.1) (hs : h.2.2.1 a = .inr (t, N)) (hd : decode M.2.2.1 pc = .ok (.arraylength, 1)) (kk : zJ l Xi M d kc ks (pc + 1) Ls (.int (nI N) :: S) h post) : zJ l Xi M d kc ks pc Ls (.ref a :: S) h post := by
  intro p e R s m args below meth c H locs cells slots ls D cT ao ad A n0 ad0 E hc hs1 hS hP hn he hl hv
  have K := kk p e R s m args below meth c H locs cells slots ls D cT ao ad A n0 ad0 E hc hs1 hS hP hn he hl (fun v q => by rcases List.mem_cons.mp q with rfl | q; exact trivial; exact hv v (List.mem_cons_of_mem _ q))
  rcases (show t = 0 ∨ t = 1 ∨ t = 2 ∨ t = 3 by omega) with rfl | rfl | rfl | rfl
  · exact va_alen (D := D) E.1 E.2.1 hP.1 hP.2.1 a 0 (x := (N, .inl (h.1 a))) ((zw_at ha).trans (by rw [zc_i hs])) (ty := .int) rfl rfl hd K
  · exact va_alen (D := D) E.1 E.2.1 hP.1 hP.2.1 a 1 (x := (N, .inr (.inl (h.2.2.2.2 a)))) ((zw_at ha).trans (by rw [zc_l hs])) (ty := .long) rfl rfl hd K
  · exact va_alen (D := D) E.1 E.2.1 hP.1 hP.2.1 a 2 (x := (N, .inr (.inr (.inr (.inr (fun j => (h.2.2.2.1 a j).map ad)))))) ((zw_at ha).trans (by rw [zc_q (t := 0) (by decide) hs])) (ty := .object RX8) rfl rfl hd K
  · exact va_alen (D := D) E.1 E.2.1 hP.1 hP.2.1 a 3 (x := (N, .inr (.inr (.inr (.inr (fun j => (h.2.2.2.1 a j).map ad)))))) ((zw_at ha).trans (by rw [zc_q (t := 1) (by decide) hs])) (ty := .array .int) rfl rfl hd K
/-- the law without a text, and the script -/
theorem zJ_getLW (hM : M.1 = RX5) (hd : decode M.2.2.1 pc = .ok (.getstatic 24, 3)) (kk : zJ l Xi M d kc ks (pc + 3) Ls (.ref (zB + 1) :: S) h post) : zJ l Xi M d kc ks pc Ls S h post := by
  intro p e R s m args below meth c H locs cells slots ls D cT ao ad A n0 ad0 E hc hs1 hS hP hn he hl hv
  have K := kk p e R s m args below meth c H locs cells slots ls D cT ao ad A n0 ad0 E hc hs1 hS hP hn he hl (fun v q => by rcases List.mem_cons.mp q with rfl | q; exact Or.inr (by omega); exact hv v q)
  rw [List.map_cons, zv, hP.2.2.2.1 1] at K
  have hO := E.2.2.2.2.2.2.2.2.2.2.2.1
  exact va_getsN E.1 E.2.1 hO.2.1.1 hS (hM ▸ E.2.2.2.2.2.1) hO.2.2.2.2.2.2.2.2.2.2.2.2.1 (fun _ q => q) hd K
theorem zJ_alenLW (hd : decode M.2.2.1 pc = .ok (.arraylength, 1)) (kk : zJ l Xi M d kc ks (pc + 1) Ls (.int 15 :: S) h post) : zJ l Xi M d kc ks pc Ls (.ref (zB + 1) :: S) h post := by
  intro p e R s m args below meth c H locs cells slots ls D cT ao ad A n0 ad0 E hc hs1 hS hP hn he hl hv
  have K := kk p e R s m args below meth c H locs cells slots ls D cT ao ad A n0 ad0 E hc hs1 hS hP hn he hl (fun v q => by rcases List.mem_cons.mp q with rfl | q; exact trivial; exact hv v (List.mem_cons_of_mem _ q))
  rw [List.map_cons, zv, hP.2.2.2.1 1]
  exact va_tlen E.1 E.2.1 E.2.2.2.2.2.2.2.2.2.2.2.1.2.1.2 hS rfl hd K
theorem zJ_sld {i : Int32} (hin : vp_in i Xi.1) (hd : decode M.2.2.1 pc = .ok (.iaload, 1)) (kk : zJ l Xi M d kc ks (pc + 1) Ls (.int (Xi.2 i.toNatClampNeg) :: S) h post) : zJ l Xi M d kc ks pc Ls (.int i :: .ref zB :: S) h post := by
  intro p e R s m args below meth c H locs cells slots ls D cT ao ad A n0 ad0 E hc hs1 hS hP hn he hl hv
  have K := kk p e R s m args below meth c H locs cells slots ls D cT ao ad A n0 ad0 E hc hs1 hS hP hn he hl (fun v q => by rcases List.mem_cons.mp q with rfl | q; exact trivial; exact hv v (List.mem_cons_of_mem _ (List.mem_cons_of_mem _ q)))
  have e0 : ad zB = ao 0 := hP.2.2.2.1 0
  obtain ⟨hX, hb, hA⟩ := E.2.2.2.2.2.2.2.2.2.2.2.1.1
  show W p l e R s m args below meth c H locs cells slots _ (F0 m pc ls (.int i :: .ref (ad zB) :: S.map (zv ad)))
  rw [e0]
  exact va_sld E.1 E.2.1 hX hb hA hS hin hd K
theorem zJ_slen (hd : decode M.2.2.1 pc = .ok (.arraylength, 1)) (kk : zJ l Xi M d kc ks (pc + 1) Ls (.int (nI Xi.1) :: S) h post) : zJ l Xi M d kc ks pc Ls (.ref zB :: S) h post := by
  intro p e R s m args below meth c H locs cells slots ls D cT ao ad A n0 ad0 E hc hs1 hS hP hn he hl hv
  have K := kk p e R s m args below meth c H locs cells slots ls D cT ao ad A n0 ad0 E hc hs1 hS hP hn he hl (fun v q => by rcases List.mem_cons.mp q with rfl | q; exact trivial; exact hv v (List.mem_cons_of_mem _ q))
  have e0 : ad zB = ao 0 := hP.2.2.2.1 0
  obtain ⟨hX, hb, hA⟩ := E.2.2.2.2.2.2.2.2.2.2.2.1.1
  show W p l e R s m args below meth c H locs cells slots _ (F0 m pc ls (.ref (ad zB) :: S.map (zv ad)))
  rw [e0]
  exact va_slen E.1 E.2.1 hX hb hA hS hd K
theorem zJ_ldcS {i num : Nat} {tx : String} (hq : (M.1, i, tx, num) ∈ zstr) (hd : decode M.2.2.1 pc = .ok (.ldc i, 2)) (kk : zJ l Xi M d kc ks (pc + 2) Ls (.ref (zB + num) :: S) h post) : zJ l Xi M d kc ks pc Ls S h post := by
  intro p e R s m args below meth c H locs cells slots ls D cT ao ad A n0 ad0 E hc hs1 hS hP hn he hl hv
  have K := kk p e R s m args below meth c H locs cells slots ls D cT ao ad A n0 ad0 E hc hs1 hS hP hn he hl (fun v q => by rcases List.mem_cons.mp q with rfl | q; exact Or.inr (by omega); exact hv v q)
  rw [List.map_cons, zv, hP.2.2.2.1 num] at K
  exact va_ldcS E.1 E.2.1 E.2.2.2.2.2.1 (E.2.2.2.2.2.2.2.2.2.2.2.1.2.2.2.1 _ hq) hd K
end ZH
