/-! ===== steps that make cells ===== -/
/-- a new cell of shape sp, all nought -/
def znew (h : zH) (sp : zS) : zH := (va_up h.1 h.2.1 (fun _ => 0), h.2.1 + 1, va_up h.2.2.1 h.2.1 sp, va_up h.2.2.2.1 h.2.1 (fun _ => none), va_up h.2.2.2.2 h.2.1 (fun _ => 0))
theorem zL_ext {ad ad' : Nat → Nat} {n n' nL : Nat} {Ls : List (Option Value)} {ls : Array Slot} (hx : zext n ad ad') (hn : n ≤ n') (hl : zL ad n Ls ls nL) : zL ad' n' Ls ls nL := by
  refine ⟨⟨hl.1.1, hl.1.2.1, fun q hq => ?_⟩, fun i v hv => ⟨zok_mono hn (hl.2 i v hv).1, (hl.2 i v hv).2⟩⟩
  obtain ⟨v, h1, h2⟩ := zlv_mem.mp hq
  rw [h2, zext_zv hx (hl.2 _ _ h1).1]
  exact hl.1.2.2 (q.1, zv ad v) (zlv_mem.mpr ⟨v, h1, rfl⟩)
theorem zS_ext {ad ad' : Nat → Nat} {n : Nat} {S : List Value} (hx : zext n ad ad') (hv : ∀ v ∈ S, zok n v) : S.map (zv ad') = S.map (zv ad) := List.map_congr_left (fun v h => zext_zv hx (hv v h))
theorem zext_up {n q : Nat} {ad : Nat → Nat} (hn : n < zB) : zext n ad (va_up ad n q) := by
  intro a ha
  have : a ≠ n := by omega
  simp [va_up, this]
theorem zc_congr {ad ad' : Nat → Nat} {cT : Nat → ClassId} {h h' : zH} {j : Nat} (h1 : h'.2.2.1 j = h.2.2.1 j) (h2 : h'.1 j = h.1 j) (h3 : ∀ i, (h'.2.2.2.1 j i).map ad' = (h.2.2.2.1 j i).map ad) (h4 : h'.2.2.2.2 j = h.2.2.2.2 j) : zc ad' cT h' j = zc ad cT h j := by
  simp only [zc, zfs, h1, h2, h3, h4]
theorem zc_new {ad : Nat → Nat} {cT : Nat → ClassId} {h : zH} {sp : zS} {q j : Nat} (hJ : ∀ k j a, h.2.2.2.1 k j = some a → a < h.2.1) (hj : j < h.2.1) : zc (va_up ad h.2.1 q) cT (znew h sp) j = zc ad cT h j := by
  have hne : j ≠ h.2.1 := by omega
  refine zc_congr (by simp [znew, va_up, hne]) (by simp [znew, va_up, hne]) (fun i => ?_) (by simp [znew, va_up, hne])
  have e : (znew h sp).2.2.2.1 j i = h.2.2.2.1 j i := by simp [znew, va_up, hne]
  rw [e]
  cases hi : h.2.2.2.1 j i with
  | none => rfl
  | some a =>
    have := hJ _ _ _ hi
    have e2 : a ≠ h.2.1 := by omega
    simp [va_up, e2]
theorem zpw_new {D : va_G} {cT : Nat → ClassId} {ao ad : Nat → Nat} {h : zH} {sp : zS} {A : Nat → Prop} {s : State} {H H1 : Heap} {q : Nat} {e : va_E} (hP : zpw D cT ao ad h A s H) (hB : h.2.1 < zB) (he : zc (va_up ad h.2.1 q) cT (znew h sp) h.2.1 = e)
    (h1 : va_P D vwCl (zw ad cT h ++ [(q, e)]) H1) (h2 : va_D A (zw ad cT h ++ [(q, e)])) : zpw D cT ao (va_up ad h.2.1 q) (znew h sp) A s H1 := by
  have hq : (va_up ad h.2.1 q) h.2.1 = q := by simp [va_up]
  have hw : zw ad cT h ++ [(q, e)] = zw (va_up ad h.2.1 q) cT (znew h sp) := by
    rw [← he]
    conv => lhs; rw [← hq]
    have := zw_push (ad := ad) (ad' := va_up ad h.2.1 q) (cT := cT) (h := h) (h' := znew h sp) rfl (fun j hj => by simp [va_up, Nat.ne_of_lt hj]) (fun j hj => zc_new hP.2.2.2.2.1 hj)
    rw [hq] at this ⊢
    exact this
  rw [hw] at h1 h2
  refine ⟨hP.1, h1, h2, fun i => ?_, fun k j a hx => ?_, ?_⟩
  · have : zB + i ≠ h.2.1 := by omega
    rw [← hP.2.2.2.1 i]
    simp [va_up, this]
  · show a < h.2.1 + 1
    by_cases e1 : k = h.2.1
    · simp [znew, va_up, e1] at hx
    · simp [znew, va_up, e1] at hx
      exact Nat.lt_succ_of_lt (hP.2.2.2.2.1 _ _ _ hx)
  · show h.2.1 + 1 ≤ zB
    omega
def zLN (own : String) (idx ci N : Nat) : Prop := ∃ (C : String) (T : u_T), zCl ci C T N ∧ Cond.classLink own idx C ∈ zGT ∧ Cond.instantiable C N ∈ zGT ∧ Cond.initialized C ∈ zGT
section ZN
variable {l : Launch} {Xi : zXi} {M : zM} {d kc ks pc : Nat} {Ls : List (Option Value)} {S : List Value} {h : zH} {post : zR → zH → Prop}
theorem zJ_new {idx ci N : Nat} (lk : zLN M.1 idx ci N) (hB : h.2.1 < zB) (hd : decode M.2.2.1 pc = .ok (.new idx, 3)) (kk : zJ l Xi M d kc ks (pc + 3) Ls (.ref h.2.1 :: S) (znew h (.inl ci)) post) : zJ l Xi M d (kc + 1) (ks + N) pc Ls S h post := by
  intro p e R s m args below meth c H locs cells slots ls D cT ao ad A n0 ad0 E hc hs hS hP hn he hl hv
  obtain ⟨C, T, hcl, hw1, hw2, hw3⟩ := lk
  obtain ⟨ty0, hty, hdef⟩ := hcl.2.2.1
  have hfs : ∀ q : Nat, zc (va_up ad h.2.1 q) cT (znew h (.inl ci)) h.2.1 = .inr (ci, (zfl ci).mapIdx (fun _ b => if b then Value.int 0 else .null)) := by
    intro q
    rw [zc_o (ci := ci) (by simp [znew, va_up])]
    simp [zfs, znew, va_up, va_rf]
  refine va_new (D := D) (ci := ci) (fs := (zfl ci).mapIdx (fun _ b => if b then Value.int 0 else .null)) (T := T) (N := N) E.1 E.2.1 E.2.2.2.2.2.2.1 hcl.2.1 ty0 hty E.2.2.2.2.2.1 (E.2.2.2.2.2.2.1 _ hw1) (E.2.2.2.2.2.2.1 _ hw2) (E.2.2.2.2.2.2.1 _ hw3) hP.1 hP.2.1 hP.2.2.1 hS E.2.2.2.2.2.2.2.2.2.2.1 hcl.1 (fun j hj => ?_) (by omega) (by omega) hd (fun q H1 h1 h2 h3 => ?_)
  · rw [hdef j hj]
    have hlt : j < (zfl ci).length := by rw [hcl.2.2.2.2.1]; exact hj
    simp [vp_V, List.getD, List.getElem?_mapIdx, List.getElem?_eq_getElem hlt]
  · have hx : zext h.2.1 ad (va_up ad h.2.1 q) := zext_up hB
    have K := kk p e R s m args below meth c H1 locs (cells + 1) (slots + N) ls D cT ao (va_up ad h.2.1 q) A n0 ad0 E (by omega) (by omega) h3 (zpw_new hP hB (hfs q) h1 h2) (Nat.le_succ_of_le hn) (zext_trans he hn hx) (zL_ext hx (Nat.le_succ _) hl) (fun v q => by rcases List.mem_cons.mp q with rfl | q; exact Or.inl (Nat.lt_succ_self _); exact zok_mono (Nat.le_succ _) (hv v q))
    rw [List.map_cons, zS_ext hx hv] at K
    have e2 : zv (va_up ad h.2.1 q) (.ref h.2.1) = .ref q := by simp [zv, va_up]
    rw [e2] at K
    exact K
theorem zJ_newi {n : Int32} {N : Nat} (hN : n = nI N) (hN2 : N ≤ 100000) (hw : Cond.arrayClass .int ∈ zGT) (hB : h.2.1 < zB) (hd : decode M.2.2.1 pc = .ok (.newarray .int, 2)) (kk : zJ l Xi M d kc ks (pc + 2) Ls (.ref h.2.1 :: S) (znew h (.inr (0, N))) post) : zJ l Xi M d (kc + 1) (ks + N) pc Ls (.int n :: S) h post := by
  intro p e R s m args below meth c H locs cells slots ls D cT ao ad A n0 ad0 E hc hs hS hP hn he hl hv
  refine va_newa (D := D) (atype := .int) E.1 E.2.1 (E.2.2.2.2.2.2.1 _ hw) (ty := .int) rfl hP.1 hP.2.1 hP.2.2.1 hS E.2.2.2.2.2.2.2.2.2.2.1 (N' := N) (a0 := (N, .inl (fun _ => 0))) (fun cA => rfl) (by rw [hN]; exact nI_pos (by omega)) (by rw [hN]; exact nI_clamp (by omega)) (by simp [componentBytes]; omega) (by omega) (by omega) hd (fun q cA H1 hK h1 h2 h3 => ?_)
  have hcA : cA = cT 0 := by
    have e1 := (hK.2 5 (cA, .int) rfl).2
    have e2 := (hP.1.2 0 (cT 0, .int) rfl).2
    exact Option.some.inj (e1.symm.trans e2)
  subst hcA
  have hx : zext h.2.1 ad (va_up ad h.2.1 q) := zext_up hB
  have hfs : zc (va_up ad h.2.1 q) cT (znew h (.inr (0, N))) h.2.1 = .inl (cT 0, N, .inl (fun _ => 0)) := by
    rw [zc_i (N := N) (by simp [znew, va_up])]
    simp [znew, va_up]
  have K := kk p e R s m args below meth c H1 locs (cells + 1) (slots + N) ls D cT ao (va_up ad h.2.1 q) A n0 ad0 E (by omega) (by omega) h3 (zpw_new hP hB hfs h1 h2) (Nat.le_succ_of_le hn) (zext_trans he hn hx) (zL_ext hx (Nat.le_succ _) hl) (fun v q => by rcases List.mem_cons.mp q with rfl | q; exact Or.inl (Nat.lt_succ_self _); exact zok_mono (Nat.le_succ _) (hv v (List.mem_cons_of_mem _ q)))
  rw [List.map_cons, zS_ext hx (fun v q => hv v (List.mem_cons_of_mem _ q))] at K
  have e2 : zv (va_up ad h.2.1 q) (.ref h.2.1) = .ref q := by simp [zv, va_up]
  rw [e2] at K
  exact K
theorem zJ_newz {n : Int32} {N : Nat} (hN : n = nI N) (hN2 : N ≤ 100000) (hw : Cond.arrayClass .boolean ∈ zGT) (hB : h.2.1 < zB) (hd : decode M.2.2.1 pc = .ok (.newarray .boolean, 2)) (kk : zJ l Xi M d kc ks (pc + 2) Ls (.ref h.2.1 :: S) (znew h (.inr (4, N))) post) : zJ l Xi M d (kc + 1) (ks + N) pc Ls (.int n :: S) h post := by
  intro p e R s m args below meth c H locs cells slots ls D cT ao ad A n0 ad0 E hc hs hS hP hn he hl hv
  refine va_newa (D := D) (atype := .boolean) E.1 E.2.1 (E.2.2.2.2.2.2.1 _ hw) (ty := .boolean) rfl hP.1 hP.2.1 hP.2.2.1 hS E.2.2.2.2.2.2.2.2.2.2.1 (N' := N) (a0 := (N, .inl (fun _ => 0))) (fun cA => rfl) (by rw [hN]; exact nI_pos (by omega)) (by rw [hN]; exact nI_clamp (by omega)) (by simp [componentBytes]; omega) (by omega) (by omega) hd (fun q cA H1 hK h1 h2 h3 => ?_)
  have hcA : cA = cT 4 := by
    have e1 := (hK.2 5 (cA, .boolean) rfl).2
    have e2 := (hP.1.2 4 (cT 4, .boolean) rfl).2
    exact Option.some.inj (e1.symm.trans e2)
  subst hcA
  have hx : zext h.2.1 ad (va_up ad h.2.1 q) := zext_up hB
  have hfs : zc (va_up ad h.2.1 q) cT (znew h (.inr (4, N))) h.2.1 = .inl (cT 4, N, .inl (fun _ => 0)) := by
    rw [zc_z (N := N) (by simp [znew, va_up])]
    simp [znew, va_up]
  have K := kk p e R s m args below meth c H1 locs (cells + 1) (slots + N) ls D cT ao (va_up ad h.2.1 q) A n0 ad0 E (by omega) (by omega) h3 (zpw_new hP hB hfs h1 h2) (Nat.le_succ_of_le hn) (zext_trans he hn hx) (zL_ext hx (Nat.le_succ _) hl) (fun v q => by rcases List.mem_cons.mp q with rfl | q; exact Or.inl (Nat.lt_succ_self _); exact zok_mono (Nat.le_succ _) (hv v (List.mem_cons_of_mem _ q)))
  rw [List.map_cons, zS_ext hx (fun v q => hv v (List.mem_cons_of_mem _ q))] at K
  have e2 : zv (va_up ad h.2.1 q) (.ref h.2.1) = .ref q := by simp [zv, va_up]
  rw [e2] at K
  exact K
theorem zJ_newl {n : Int32} {N : Nat} (hN : n = nI N) (hN2 : N ≤ 100000) (hw : Cond.arrayClass .long ∈ zGT) (hB : h.2.1 < zB) (hd : decode M.2.2.1 pc = .ok (.newarray .long, 2)) (kk : zJ l Xi M d kc ks (pc + 2) Ls (.ref h.2.1 :: S) (znew h (.inr (1, N))) post) : zJ l Xi M d (kc + 1) (ks + N) pc Ls (.int n :: S) h post := by
  intro p e R s m args below meth c H locs cells slots ls D cT ao ad A n0 ad0 E hc hs hS hP hn he hl hv
  refine va_newa (D := D) (atype := .long) E.1 E.2.1 (E.2.2.2.2.2.2.1 _ hw) (ty := .long) rfl hP.1 hP.2.1 hP.2.2.1 hS E.2.2.2.2.2.2.2.2.2.2.1 (N' := N) (a0 := (N, .inr (.inl (fun _ => 0)))) (fun cA => rfl) (by rw [hN]; exact nI_pos (by omega)) (by rw [hN]; exact nI_clamp (by omega)) (by simp [componentBytes]; omega) (by omega) (by omega) hd (fun q cA H1 hK h1 h2 h3 => ?_)
  have hcA : cA = cT 1 := by
    have e1 := (hK.2 5 (cA, .long) rfl).2
    have e2 := (hP.1.2 1 (cT 1, .long) rfl).2
    exact Option.some.inj (e1.symm.trans e2)
  subst hcA
  have hx : zext h.2.1 ad (va_up ad h.2.1 q) := zext_up hB
  have hfs : zc (va_up ad h.2.1 q) cT (znew h (.inr (1, N))) h.2.1 = .inl (cT 1, N, .inr (.inl (fun _ => 0))) := by
    rw [zc_l (N := N) (by simp [znew, va_up])]
    simp [znew, va_up]
  have K := kk p e R s m args below meth c H1 locs (cells + 1) (slots + N) ls D cT ao (va_up ad h.2.1 q) A n0 ad0 E (by omega) (by omega) h3 (zpw_new hP hB hfs h1 h2) (Nat.le_succ_of_le hn) (zext_trans he hn hx) (zL_ext hx (Nat.le_succ _) hl) (fun v q => by rcases List.mem_cons.mp q with rfl | q; exact Or.inl (Nat.lt_succ_self _); exact zok_mono (Nat.le_succ _) (hv v (List.mem_cons_of_mem _ q)))
  rw [List.map_cons, zS_ext hx (fun v q => hv v (List.mem_cons_of_mem _ q))] at K
  have e2 : zv (va_up ad h.2.1 q) (.ref h.2.1) = .ref q := by simp [zv, va_up]
  rw [e2] at K
  exact K
theorem zJ_newq {idx : Nat} {n : Int32} {N : Nat} (hN : n = nI N) (hN2 : N ≤ 100000) (hw : Cond.classLink M.1 idx RX8 ∈ zGT) (hB : h.2.1 < zB) (hd : decode M.2.2.1 pc = .ok (.anewarray idx, 3)) (kk : zJ l Xi M d kc ks (pc + 3) Ls (.ref h.2.1 :: S) (znew h (.inr (2, N))) post) : zJ l Xi M d (kc + 1) (ks + N) pc Ls (.int n :: S) h post := by
  intro p e R s m args below meth c H locs cells slots ls D cT ao ad A n0 ad0 E hc hs hS hP hn he hl hv
  refine va_newq (D := D) E.1 E.2.1 E.2.2.2.2.2.1 (E.2.2.2.2.2.2.1 _ hw) E.2.2.2.2.2.2.2.2.2.2.2.1.2.2.2.2.2.2.2.1 hP.1 hP.2.1 hP.2.2.1 hS E.2.2.2.2.2.2.2.2.2.2.1 (N' := N) (by rw [hN]; exact nI_pos (by omega)) (by rw [hN]; exact nI_clamp (by omega)) (by omega) (by omega) (by omega) hd (fun q cA H1 hK h1 h2 h3 => ?_)
  have hcA : cA = cT 2 := by
    obtain ⟨-, -, -, -, -, e1⟩ := (hK.2 5 (cA, .object RX8) rfl).2
    obtain ⟨-, -, -, -, -, e2⟩ := (hP.1.2 2 (cT 2, .object RX8) rfl).2
    exact Option.some.inj (e1.symm.trans e2)
  subst hcA
  have hx : zext h.2.1 ad (va_up ad h.2.1 q) := zext_up hB
  have hfs : zc (va_up ad h.2.1 q) cT (znew h (.inr (2, N))) h.2.1 = .inl (cT 2, N, .inr (.inr (.inr (.inr (fun _ => none))))) := by
    rw [zc_q (t := 0) (N := N) (by decide) (by simp [znew, va_up])]
    simp [znew, va_up]
  have K := kk p e R s m args below meth c H1 locs (cells + 1) (slots + N) ls D cT ao (va_up ad h.2.1 q) A n0 ad0 E (by omega) (by omega) h3 (zpw_new hP hB hfs h1 h2) (Nat.le_succ_of_le hn) (zext_trans he hn hx) (zL_ext hx (Nat.le_succ _) hl) (fun v q => by rcases List.mem_cons.mp q with rfl | q; exact Or.inl (Nat.lt_succ_self _); exact zok_mono (Nat.le_succ _) (hv v (List.mem_cons_of_mem _ q)))
  rw [List.map_cons, zS_ext hx (fun v q => hv v (List.mem_cons_of_mem _ q))] at K
  have e2 : zv (va_up ad h.2.1 q) (.ref h.2.1) = .ref q := by simp [zv, va_up]
  rw [e2] at K
  exact K
end ZN
