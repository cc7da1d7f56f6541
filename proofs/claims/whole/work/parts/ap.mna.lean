/-! ===== new int[n][m] ===== -/
section ZMna
def zmna (h : zH) (N K : Nat) : zH := (fun k => if h.2.1 ≤ k ∧ k ≤ h.2.1 + N then (fun _ => 0) else h.1 k, h.2.1 + 1 + N, fun k => if k < h.2.1 then h.2.2.1 k else if k = h.2.1 then .inr (3, N) else .inr (0, K), fun k j => if k < h.2.1 then h.2.2.2.1 k j else if k = h.2.1 then (if j < N then some (h.2.1 + 1 + j) else none) else none, fun k => if h.2.1 ≤ k then (fun _ => 0) else h.2.2.2.2 k)
theorem lx_mna : Cond.classLink RX13 35 "[[I" ∈ zGT := (zt6 172 rfl rfl)
variable {l : Launch} {Xi : zXi} {M : zM} {d kc ks pc : Nat} {Ls : List (Option Value)} {S : List Value} {h : zH} {post : zR → zH → Prop}
theorem zJ_mna {idx : Nat} {n k : Int32} {N K : Nat} (hN : n = nI N) (hK : k = nI K) (hN2 : N ≤ 10000) (hK2 : K ≤ 100000) (hw : Cond.classLink M.1 idx "[[I" ∈ zGT) (hB : h.2.1 + 1 + N < zB) (hd : decode M.2.2.1 pc = .ok (.multianewarray idx 2, 4)) (kk : zJ l Xi M d kc ks (pc + 4) Ls (.ref h.2.1 :: S) (zmna h N K) post) : zJ l Xi M d (kc + (1 + N)) (ks + (N + N * K)) pc Ls (.int k :: .int n :: S) h post := by
  intro p e R s m args below meth c H locs cells slots ls D cT ao ad A n0 ad0 E hc hs hS hP hn he hl hv
  have hts := E.2.2.2.2.2.2.1
  refine va_mna (D := D) (X := zw ad cT h) (L := []) (f := fun _ => .inl (cT 0, 0, .inl (fun _ => 0))) (ty := .int) (N' := N) (K' := K) (z := (K, .inl (fun _ => 0))) (own := M.1) (index := idx) E.1 E.2.1 E.2.2.2.2.2.1 (hts _ hw) E.2.2.2.2.2.2.2.2.2.2.2.1.2.2.2.2.2.2.2.2.1 (hts _ lw_int) ((hP.1.2 0 (cT 0, .int) rfl).2) hP.1 (by show va_P D vwCl (zw ad cT h ++ []) H; rw [List.append_nil]; exact hP.2.1) (by show va_D A (zw ad cT h ++ []); rw [List.append_nil]; exact hP.2.2.1) hS E.2.2.2.2.2.2.2.2.2.2.1 (by rw [hN]; exact nI_pos (by omega)) (by rw [hK]; exact nI_pos (by omega)) (by rw [hN]; exact nI_clamp (by omega)) (by rw [hK]; exact nI_clamp (by omega)) (by omega) (by simp [componentBytes]; omega) (by omega) rfl rfl (by omega) (by omega) (fun _ => arrV_new _ _ _) hd (fun q r cA H1 hr1 hr2 hKK h1 h2 h3 => ?_)
  have hcA : cA = cT 3 := by
    have e1 := (hKK.2 5 (cA, .array .int) rfl).2
    have e2 := (hP.1.2 3 (cT 3, .array .int) rfl).2
    exact Option.some.inj (e1.symm.trans e2)
  subst hcA
  obtain ⟨ad', had⟩ : ∃ ad' : Nat → Nat, ad' = fun k => if k = h.2.1 then q else if h.2.1 < k ∧ k ≤ h.2.1 + N then r (k - h.2.1 - 1) else ad k := ⟨_, rfl⟩
  have a1 : ad' h.2.1 = q := by rw [had]; simp
  have a2 : ∀ i, i < N → ad' (h.2.1 + 1 + i) = r i := fun i hi => by
    rw [had]
    simp only []
    rw [if_neg (by omega), if_pos (by omega)]
    congr 1; omega
  have a3 : ∀ a, a < h.2.1 ∨ zB ≤ a → ad' a = ad a := fun a ha => by
    rw [had]
    simp only []
    rw [if_neg (by omega), if_neg (by omega)]
  have hJ := hP.2.2.2.2.1
  have z1 : ∀ j, j < h.2.1 → zc ad' cT (zmna h N K) j = zc ad cT h j := fun j hj => by
    refine zc_congr (by simp [zmna, hj]) (by simp [zmna, show ¬ (h.2.1 ≤ j ∧ j ≤ h.2.1 + N) by omega]) (fun i => ?_) (by simp [zmna, show ¬ h.2.1 ≤ j by omega])
    have e : (zmna h N K).2.2.2.1 j i = h.2.2.2.1 j i := by simp [zmna, hj]
    rw [e]
    cases hi : h.2.2.2.1 j i with
    | none => rfl
    | some a => simp only [Option.map_some]; rw [a3 a (Or.inl (hJ _ _ _ hi))]
  have z2 : zc ad' cT (zmna h N K) h.2.1 = .inl (cT 3, N, .inr (.inr (.inr (.inr (fun i => if i < N then some (r i) else none))))) := by
    rw [zc_q (t := 1) (N := N) (by decide) (by simp [zmna])]
    congr 7
    funext i
    have e : (zmna h N K).2.2.2.1 h.2.1 i = if i < N then some (h.2.1 + 1 + i) else none := by simp [zmna]
    rw [e]
    by_cases hi : i < N
    · rw [if_pos hi, if_pos hi, Option.map_some, a2 i hi]
    · rw [if_neg hi, if_neg hi]; rfl
  have z3 : ∀ i, i < N → zc ad' cT (zmna h N K) (h.2.1 + 1 + i) = .inl (cT 0, K, .inl (fun _ => 0)) := fun i hi => by
    rw [zc_i (N := K) (by simp [zmna, show ¬ h.2.1 + 1 + i < h.2.1 by omega, show ¬ h.2.1 + 1 + i = h.2.1 by omega])]
    simp [zmna, show h.2.1 ≤ h.2.1 + 1 + i ∧ h.2.1 + 1 + i ≤ h.2.1 + N by omega]
  have hz : zw ad' cT (zmna h N K) = (zw ad cT h ++ [(q, .inl (cT 3, N, .inr (.inr (.inr (.inr (fun i => if i < N then some (r i) else none))))))]) ++ va_pl ([] ++ (List.range N).map r) (vr_up (fun _ => .inl (cT 0, 0, .inl (fun _ => 0))) ((List.range N).map r) (.inl (cT 0, K, .inl (fun _ => 0)))) := by
    have f1 : zw ad' cT (zmna h N K) = (List.range (h.2.1 + 1 + N)).map (fun k => (ad' k, zc ad' cT (zmna h N K) k)) := rfl
    rw [f1, List.range_add, List.map_append, List.range_succ, List.map_append]
    congr 1
    · congr 1
      · exact List.map_congr_left (fun j hj => by rw [z1 j (List.mem_range.mp hj), a3 j (Or.inl (List.mem_range.mp hj))])
      · simp only [List.map_cons, List.map_nil]
        rw [z2, a1]
    · unfold va_pl
      rw [List.nil_append, List.map_map, List.map_map]
      exact List.map_congr_left (fun i hi => by
        simp only [Function.comp]
        rw [z3 i (List.mem_range.mp hi), a2 i (List.mem_range.mp hi), vr_up_in (List.mem_map.mpr ⟨i, hi, rfl⟩)])
  rw [← hz] at h1 h2
  have hx : zext h.2.1 ad ad' := fun a ha => a3 a ha
  have hPn : zpw D cT ao ad' (zmna h N K) A s H1 := by
    refine ⟨hP.1, h1, h2, fun i => ?_, fun k j a hx => ?_, ?_⟩
    · rw [a3 _ (Or.inr (by omega))]; exact hP.2.2.2.1 i
    · show a < h.2.1 + 1 + N
      by_cases e1 : k < h.2.1
      · simp [zmna, e1] at hx
        have := hJ _ _ _ hx
        omega
      · by_cases e2 : k = h.2.1
        · by_cases e3 : j < N
          · simp [zmna, e2, e3] at hx
            omega
          · simp [zmna, e2, e3] at hx
        · simp [zmna, e1, e2] at hx
    · show h.2.1 + 1 + N ≤ zB
      omega
  have K9 := kk p e R s m args below meth c H1 locs (cells + 1 + N) (slots + N + N * K) ls D cT ao ad' A n0 ad0 E (by omega) (by omega) h3 hPn (by show n0 ≤ h.2.1 + 1 + N; omega) (zext_trans he hn hx) (zL_ext hx (by show h.2.1 ≤ h.2.1 + 1 + N; omega) hl) (fun v q => by rcases List.mem_cons.mp q with rfl | q; exact Or.inl (by show h.2.1 < h.2.1 + 1 + N; omega); exact zok_mono (by show h.2.1 ≤ h.2.1 + 1 + N; omega) (hv v (List.mem_cons_of_mem _ (List.mem_cons_of_mem _ q))))
  rw [List.map_cons, zS_ext hx (fun v q => hv v (List.mem_cons_of_mem _ (List.mem_cons_of_mem _ q)))] at K9
  have e2 : zv ad' (.ref h.2.1) = .ref q := by simp [zv, a1]
  rw [e2] at K9
  exact K9
end ZMna
/-! ===== what stands while constructors run: n cells are made; of the objects in uc only the fields listed are set ===== -/
section ZpG
def pG (n : Nat) (uc : List (Nat × List Nat)) (g : zG) : Prop := g.1 = n ∧ (∀ q ∈ uc, q.1 < n) ∧ (∀ k, k < n → g.2.1 k = zS0 k) ∧ (∀ k j b, k < n → zJ0 k j = some b → ((∀ q ∈ uc, q.1 ≠ k) ∨ ∃ q ∈ uc, q.1 = k ∧ j ∈ q.2) → g.2.2.1 k j = some b) ∧ ∀ k j, k < n → k = 58 ∨ k = 59 ∨ k = 60 → g.2.2.1 k j = none
variable {n ci N K : Nat} {uc : List (Nat × List Nat)} {I : zI} {g : zG}
theorem pG_arr {sp : zS} (G : pG n uc g) (hz : zS0 n = sp) (hj : ∀ j, zJ0 n j = none) : pG (n + 1) uc (gnew g sp) := by
  obtain ⟨h1, h2, h3, h4, h5⟩ := G
  subst h1
  refine ⟨rfl, fun q hq => Nat.lt_succ_of_lt (h2 q hq), fun k hk => ?_, fun k j b hk hb hc => ?_, fun k j hk hs => ?_⟩
  · show va_up g.2.1 g.1 sp k = _
    by_cases z : k = g.1
    · rw [z, va_eq]; exact hz.symm
    · rw [va_ne z]; exact h3 k (by omega)
  · show va_up g.2.2.1 g.1 _ k j = _
    by_cases z : k = g.1
    · rw [z, hj j] at hb; cases hb
    · rw [va_ne z]; exact h4 k j b (by omega) hb hc
  · show va_up g.2.2.1 g.1 _ k j = _
    by_cases z : k = g.1
    · rw [z, va_eq]
    · rw [va_ne z]; exact h5 k j (by omega) hs
theorem pG_obj {sp : zS} (G : pG n uc g) (hz : zS0 n = sp) : pG (n + 1) ((n, []) :: uc) (gnew g sp) := by
  obtain ⟨h1, h2, h3, h4, h5⟩ := G
  subst h1
  refine ⟨rfl, fun q hq => ?_, fun k hk => ?_, fun k j b hk hb hc => ?_, fun k j hk hs => ?_⟩
  · rcases List.mem_cons.mp hq with rfl | hq
    · exact Nat.lt_succ_self _
    · exact Nat.lt_succ_of_lt (h2 q hq)
  · show va_up g.2.1 g.1 sp k = _
    by_cases z : k = g.1
    · rw [z, va_eq]; exact hz.symm
    · rw [va_ne z]; exact h3 k (by omega)
  · show va_up g.2.2.1 g.1 _ k j = _
    by_cases z : k = g.1
    · exfalso
      rcases hc with hc | ⟨q, hq, e1, e2⟩
      · exact hc (g.1, []) List.mem_cons_self z.symm
      · rcases List.mem_cons.mp hq with rfl | hq
        · cases e2
        · have := h2 q hq
          omega
    · rw [va_ne z]
      refine h4 k j b (by omega) hb ?_
      rcases hc with hc | ⟨q, hq, e1, e2⟩
      · exact Or.inl (fun q hq => hc q (List.mem_cons_of_mem _ hq))
      · rcases List.mem_cons.mp hq with rfl | hq
        · exact absurd e1.symm z
        · exact Or.inr ⟨q, hq, e1, e2⟩
  · show va_up g.2.2.1 g.1 _ k j = _
    by_cases z : k = g.1
    · rw [z, va_eq]
    · rw [va_ne z]; exact h5 k j (by omega) hs
theorem pG_put {a k b : Nat} {fs : List Nat} (G : pG n ((a, fs) :: uc) g) (hj : zJ0 a k = some b) (ha : a ≠ 58 ∧ a ≠ 59 ∧ a ≠ 60) : pG n ((a, k :: fs) :: uc) (gset g a k b) := by
  obtain ⟨h1, h2, h3, h4, h5⟩ := G
  refine ⟨h1, fun q hq => ?_, h3, fun k' j b' hk hb hc => ?_, fun k' j hk hs => ?_⟩
  · rcases List.mem_cons.mp hq with rfl | hq
    · exact h2 (a, fs) List.mem_cons_self
    · exact h2 q (List.mem_cons_of_mem _ hq)
  · show va_up g.2.2.1 a (va_up (g.2.2.1 a) k (some b)) k' j = _
    by_cases z : k' = a
    · subst z
      rw [va_eq]
      by_cases z2 : j = k
      · subst z2
        rw [va_eq]
        exact hj.symm.trans hb
      · rw [va_ne z2]
        refine h4 k' j b' hk hb ?_
        rcases hc with hc | ⟨q, hq, e1, e2⟩
        · exact absurd rfl (hc (k', k :: fs) List.mem_cons_self)
        · rcases List.mem_cons.mp hq with rfl | hq
          · rcases List.mem_cons.mp e2 with e2 | e2
            · exact absurd e2 z2
            · exact Or.inr ⟨(k', fs), List.mem_cons_self, rfl, e2⟩
          · exact Or.inr ⟨q, List.mem_cons_of_mem _ hq, e1, e2⟩
    · rw [va_ne z]
      refine h4 k' j b' hk hb ?_
      rcases hc with hc | ⟨q, hq, e1, e2⟩
      · refine Or.inl (fun q hq => ?_)
        rcases List.mem_cons.mp hq with rfl | hq
        · exact fun y => z y.symm
        · exact hc q (List.mem_cons_of_mem _ hq)
      · rcases List.mem_cons.mp hq with rfl | hq
        · exact absurd e1.symm z
        · exact Or.inr ⟨q, List.mem_cons_of_mem _ hq, e1, e2⟩
  · show va_up g.2.2.1 a _ k' j = _
    rw [va_ne (by omega)]
    exact h5 k' j hk hs
theorem pG_fin {a : Nat} {fs : List Nat} (G : pG n ((a, fs) :: uc) g) (hf : ∀ j b, zJ0 a j = some b → j ∈ fs) : pG n uc g := by
  obtain ⟨h1, h2, h3, h4, h5⟩ := G
  refine ⟨h1, fun q hq => h2 q (List.mem_cons_of_mem _ hq), h3, fun k j b hk hb hc => ?_, h5⟩
  refine h4 k j b hk hb ?_
  by_cases z : k = a
  · subst z
    exact Or.inr ⟨(k, fs), List.mem_cons_self, rfl, hf j b hb⟩
  · rcases hc with hc | ⟨q, hq, e1, e2⟩
    · refine Or.inl (fun q hq => ?_)
      rcases List.mem_cons.mp hq with rfl | hq
      · exact fun y => z y.symm
      · exact hc q hq
    · exact Or.inr ⟨q, List.mem_cons_of_mem _ hq, e1, e2⟩
theorem pG_mna (G : pG n uc g) (h60 : 60 < n) (hz : zS0 n = .inr (3, N)) (hr : ∀ i, i < N → zS0 (n + 1 + i) = .inr (0, K)) (hj : ∀ j b, zJ0 n j = some b → j < N ∧ b = n + 1 + j) (hj2 : ∀ i j, i < N → zJ0 (n + 1 + i) j = none) : pG (n + 1 + N) uc (zmna (I, g) N K).2 := by
  obtain ⟨h1, h2, h3, h4, h5⟩ := G
  subst h1
  refine ⟨rfl, fun q hq => by have := h2 q hq; omega, fun k hk => ?_, fun k j b hk hb hc => ?_, fun k j hk hs => ?_⟩
  · show (if k < g.1 then g.2.1 k else if k = g.1 then .inr (3, N) else .inr (0, K)) = _
    by_cases z : k < g.1
    · rw [if_pos z]; exact h3 k z
    · rw [if_neg z]
      by_cases z2 : k = g.1
      · rw [if_pos z2, z2]; exact hz.symm
      · rw [if_neg z2, ← hr (k - g.1 - 1) (by omega), show g.1 + 1 + (k - g.1 - 1) = k by omega]
  · show (if k < g.1 then g.2.2.1 k j else if k = g.1 then (if j < N then some (g.1 + 1 + j) else none) else none) = _
    by_cases z : k < g.1
    · rw [if_pos z]; exact h4 k j b z hb hc
    · rw [if_neg z]
      by_cases z2 : k = g.1
      · rw [if_pos z2]
        rw [z2] at hb
        obtain ⟨w1, w2⟩ := hj j b hb
        rw [if_pos w1, w2]
      · have := hj2 (k - g.1 - 1) j (by omega)
        rw [show g.1 + 1 + (k - g.1 - 1) = k by omega, hb] at this
        cases this
  · show (if k < g.1 then g.2.2.1 k j else if k = g.1 then (if j < N then some (g.1 + 1 + j) else none) else none) = _
    by_cases z : k < g.1
    · rw [if_pos z]; exact h5 k j z hs
    · rw [if_neg z, if_neg (by omega)]
theorem pG_ob {a : Nat} (G : pG n uc g) (ha : a < n) (hz : zS0 a = .inl ci) : zOb g a ci := ⟨by rw [G.1]; exact ha, (G.2.2.1 a ha).trans hz⟩
theorem getD_lt {α : Type} {L : List (Option α)} {j : Nat} {b : α} (h : L.getD j none = some b) : j < L.length := by
  rcases Nat.lt_or_ge j L.length with z | z
  · exact z
  · rw [List.getD_eq_getElem?_getD, List.getElem?_eq_none z] at h; cases h
theorem pG_rf {a k b : Nat} (G : pG n uc g) (ha : a < n) (hj : zJ0 a k = some b) (hm : (∀ q ∈ uc, q.1 ≠ a) ∨ ∃ q ∈ uc, q.1 = a ∧ k ∈ q.2) : zRf g a k b := G.2.2.2.1 a k b ha hj hm
theorem pG_ar {b : Nat} (G : pG n uc g) (hb : b < n) (hz : zS0 b = .inr (0, N)) : zAr g b N := ⟨by rw [G.1]; exact hb, (G.2.2.1 b hb).trans hz⟩
def zJk : List Nat := [0, 1, 3, 12, 21, 25, 29, 32, 35, 41, 43, 44, 49, 50, 53, 57, 62, 68, 74, 82, 89, 96, 103, 110, 271, 432, 441, 452, 536, 553, 560, 577]
theorem zJ0_no {k j : Nat} (h : ∀ q ∈ zJk, q ≠ k) : zJ0 k j = none := by
  unfold zJ0
  split <;> first | rfl | exact absurd rfl (h _ (by decide))
theorem ite_sm {j b : Nat} (h : (if j < N then some (n + 1 + j) else none) = some b) : j < N ∧ b = n + 1 + j := by
  by_cases z : j < N
  · rw [if_pos z] at h; exact ⟨z, (Option.some.inj h).symm⟩
  · rw [if_neg z] at h; cases h
variable {l : Launch} {Xi : zXi} {M : zM} {d kc ks pc : Nat} {Ls : List (Option Value)} {S : List Value} {post : zR → zH → Prop}
theorem zN_arr {v : Int32} (G : pG n uc g) (hz : zS0 n = .inr (0, N)) (hj : ∀ j, zJ0 n j = none) (hn : n < 1000) (hv : v = nI N) (hN : N ≤ 100000) (hd : decode M.2.2.1 pc = .ok (.newarray .int, 2)) (kk : ∀ I' g', pG (n + 1) uc g' → (∀ k, k ≠ n → I' k = I k) → I' n = (fun _ => 0) → zJ l Xi M d kc ks (pc + 2) Ls (.ref n :: S) (I', g') post) : zJ l Xi M d (kc + 1) (ks + N) pc Ls (.int v :: S) (I, g) post := by
  have h1 := G.1
  subst h1
  exact zP_newi hv hN (by unfold zB; omega) hd (kk _ _ (pG_arr G hz hj) (fun k hk => va_ne hk) va_eq)
theorem zN_boo {v : Int32} (G : pG n uc g) (hz : zS0 n = .inr (4, N)) (hj : ∀ j, zJ0 n j = none) (hn : n < 1000) (hv : v = nI N) (hN : N ≤ 100000) (hd : decode M.2.2.1 pc = .ok (.newarray .boolean, 2)) (kk : ∀ I' g', pG (n + 1) uc g' → (∀ k, k ≠ n → I' k = I k) → I' n = (fun _ => 0) → zJ l Xi M d kc ks (pc + 2) Ls (.ref n :: S) (I', g') post) : zJ l Xi M d (kc + 1) (ks + N) pc Ls (.int v :: S) (I, g) post := by
  have h1 := G.1
  subst h1
  exact zP_newz hv hN (by unfold zB; omega) hd (kk _ _ (pG_arr G hz hj) (fun k hk => va_ne hk) va_eq)
theorem zN_que {v : Int32} {idx : Nat} (G : pG n uc g) (hz : zS0 n = .inr (2, N)) (hj : ∀ j, zJ0 n j = none) (hn : n < 1000) (hv : v = nI N) (hN : N ≤ 100000) (hw : Cond.classLink M.1 idx RX8 ∈ zGT) (hd : decode M.2.2.1 pc = .ok (.anewarray idx, 3)) (kk : ∀ I' g', pG (n + 1) uc g' → (∀ k, k ≠ n → I' k = I k) → I' n = (fun _ => 0) → zJ l Xi M d kc ks (pc + 3) Ls (.ref n :: S) (I', g') post) : zJ l Xi M d (kc + 1) (ks + N) pc Ls (.int v :: S) (I, g) post := by
  have h1 := G.1
  subst h1
  exact zP_newq hv hN hw (by unfold zB; omega) hd (kk _ _ (pG_arr G hz hj) (fun k hk => va_ne hk) va_eq)
theorem zN_obj {idx : Nat} (G : pG n uc g) (lk : zLN M.1 idx ci N) (hz : zS0 n = .inl ci) (hn : n < 1000) (hd : decode M.2.2.1 pc = .ok (.new idx, 3)) (kk : ∀ I' g', pG (n + 1) ((n, []) :: uc) g' → (∀ k, k ≠ n → I' k = I k) → I' n = (fun _ => 0) → zJ l Xi M d kc ks (pc + 3) Ls (.ref n :: S) (I', g') post) : zJ l Xi M d (kc + 1) (ks + N) pc Ls S (I, g) post := by
  have h1 := G.1
  subst h1
  exact zP_new lk (by unfold zB; omega) hd (kk _ _ (pG_obj G hz) (fun k hk => va_ne hk) va_eq)
theorem zN_put {idx k a b : Nat} {fs : List Nat} (G : pG n ((a, fs) :: uc) g) (lk : zLR M.1 idx ci k) (hi : M.2.1.name = "<init>") (hz : zS0 a = .inl ci) (ha : a < n) (hb : b < n) (hj : zJ0 a k = some b) (hf : (zfl ci)[k]? = some false) (h5 : a ≠ 58 ∧ a ≠ 59 ∧ a ≠ 60) (hd : decode M.2.2.1 pc = .ok (.putfield idx, 3)) (kk : ∀ g', pG n ((a, k :: fs) :: uc) g' → zJ l Xi M d kc ks (pc + 3) Ls S (I, g') post) : zJ l Xi M d kc ks pc Ls (.ref b :: .ref a :: S) (I, g) post := zP_putr lk hi (pG_ob G ha hz) (by rw [G.1]; exact hb) hf hd (kk _ (pG_put G hj h5))
theorem zN_mna {v w : Int32} {idx : Nat} (G : pG n uc g) (h60 : 60 < n) (hn : n < 1000) (hN : N ≤ 1000) (hK : K ≤ 10000) (hz : zS0 n = .inr (3, N)) (hr : ∀ i, i < N → zS0 (n + 1 + i) = .inr (0, K)) (hj : ∀ j b, zJ0 n j = some b → j < N ∧ b = n + 1 + j) (hj2 : ∀ i j, i < N → zJ0 (n + 1 + i) j = none) (hv : v = nI N) (hw : w = nI K) (hl : Cond.classLink M.1 idx "[[I" ∈ zGT) (hd : decode M.2.2.1 pc = .ok (.multianewarray idx 2, 4)) (kk : ∀ I' g', pG (n + 1 + N) uc g' → (∀ k, k < n ∨ n + N < k → I' k = I k) → (∀ k, n ≤ k → k ≤ n + N → I' k = (fun _ => 0)) → zJ l Xi M d kc ks (pc + 4) Ls (.ref n :: S) (I', g') post) : zJ l Xi M d (kc + (1 + N)) (ks + (N + N * K)) pc Ls (.int w :: .int v :: S) (I, g) post := by
  have h1 := G.1
  subst h1
  exact zJ_mna (h := (I, g)) hv hw (by omega) (by omega) hl (by show g.1 + 1 + N < zB; unfold zB; omega) hd (kk _ _ (pG_mna G h60 hz hr hj hj2) (fun k hk => by show (if g.1 ≤ k ∧ k ≤ g.1 + N then _ else I k) = I k; rw [if_neg (by omega)]) (fun k hk hk2 => by show (if g.1 ≤ k ∧ k ≤ g.1 + N then _ else I k) = _; rw [if_pos ⟨hk, hk2⟩]))
end ZpG
