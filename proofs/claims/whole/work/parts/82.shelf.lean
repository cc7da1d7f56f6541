/-! ===== Shelf ===== -/
section ZShelf
variable {l : Launch} {Xi : zXi} {d : Nat} {I : zI} {g : zG}
theorem zSt_q {g : zG} (hs : zSt g) (n N : Nat) (h : zS0 n = .inr (2, N)) (hn : n < 642 := by decide) : n < g.1 ∧ g.2.1 n = .inr (2, N) := ⟨Nat.lt_of_lt_of_le hn hs.1, (hs.2.1 n hn).trans h⟩
theorem zSt_nw {J : zI} {g' : zG} {a K : Nat} (hs : zSt g) (h : nwB a K I g J g') (ha : 642 ≤ a) : zSt g' := ⟨by rw [h.1]; omega, fun k hk => by rw [(h.2 k (by omega)).2.1]; exact hs.2.1 k hk, fun k j x hk hx => by rw [(h.2 k (by omega)).2.2.1]; exact hs.2.2 k j x hk hx⟩
theorem zSt_set {a k b : Nat} (hs : zSt g) (ha : a = 58 ∨ a = 59 ∨ a = 60) : zSt (gset g a k b) := by
  refine ⟨hs.1, hs.2.1, fun q j x hq hx => ?_⟩
  show va_up g.2.2.1 a _ q j = some x
  by_cases e : q = a
  · subst e
    rcases ha with rfl | rfl | rfl <;> cases hx
  · rw [va_ne e]; exact hs.2.2 q j x hq hx
theorem zK_nw {J : zI} {g' : zG} {a K c ci : Nat} {fs : List (Nat × Nat × Nat)} (hk : zK g c ci fs) (h : nwB a K I g J g') (ha : a = g.1) : zK g' c ci fs := by
  have h1 := hk.1.1
  refine ⟨⟨by rw [h.1]; omega, by rw [(h.2 c (by omega)).2.1]; exact hk.1.2⟩, fun k q hq => ?_⟩
  obtain ⟨h2, h3, h4⟩ := hk.2 k q hq
  refine ⟨?_, by rw [h.1]; omega, by rw [(h.2 _ (by omega)).2.1]; exact h4⟩
  unfold zRf
  rw [(h.2 c (by omega)).2.2.1]; exact h2
theorem zK_set {a k b c ci : Nat} {fs : List (Nat × Nat × Nat)} (hk : zK g c ci fs) (ha : c ≠ a) : zK (gset g a k b) c ci fs := by
  refine ⟨hk.1, fun k q hq => ⟨?_, (hk.2 k q hq).2⟩⟩
  show va_up g.2.2.1 a _ c _ = _
  rw [va_ne ha]; exact (hk.2 k q hq).1
theorem zK_sep {a c : Nat} (h : zK g a 8 zLt_State) (h' : zK g c 8 zLt_State) (hne : a ≠ c) : a + 5 < c ∨ c + 5 < a := by
  have key : ∀ {a c : Nat}, zK g a 8 zLt_State → zK g c 8 zLt_State → a < c → a + 5 < c := by
    intro a c h h' hlt
    refine Nat.lt_of_not_le (fun hle => ?_)
    have e : c = a + 1 ∨ c = a + 2 ∨ c = a + 3 ∨ c = a + 4 ∨ c = a + 5 := by omega
    have hc := h'.1.2
    rcases e with rfl | rfl | rfl | rfl | rfl
    · have := (zK_ar h 0 0 1 384 rfl).2; rw [hc] at this; cases this
    · have := (zK_ar h 1 1 2 64 rfl).2; rw [hc] at this; cases this
    · have := (zK_ar h 2 2 3 64 rfl).2; rw [hc] at this; cases this
    · have := (zK_ar h 3 3 4 64 rfl).2; rw [hc] at this; cases this
    · have := (zK_ar h 4 4 5 6 rfl).2; rw [hc] at this; cases this
  rcases Nat.lt_or_gt_of_ne hne with z | z
  · exact Or.inl (key h h' z)
  · exact Or.inr (key h' h z)
theorem zK_lt {a : Nat} (h : zK g a 8 zLt_State) : a + 5 < g.1 := (zK_ar h 4 4 5 6 rfl).1
/-- the heap grows; only what the shelf's rows refer to changes -/
def gE (g g' : zG) : Prop := g.1 ≤ g'.1 ∧ g'.1 ≤ g.1 + 6 ∧ (∀ k, k < g.1 → g'.2.1 k = g.2.1 k) ∧ (∀ k, k < g.1 → k ≠ 58 → k ≠ 59 → k ≠ 60 → g'.2.2.1 k = g.2.2.1 k) ∧ ∀ k, k < g.1 → g'.2.2.2 k = g.2.2.2 k
theorem gE_rfl : gE g g := ⟨Nat.le_refl _, by omega, fun _ _ => rfl, fun _ _ _ _ _ => rfl, fun _ _ => rfl⟩
theorem gE_set {g' : zG} {a k b : Nat} (h : gE g g') (ha : a = 58 ∨ a = 59 ∨ a = 60) : gE g (gset g' a k b) := ⟨h.1, h.2.1, h.2.2.1, fun q hq n1 n2 n3 => (va_ne (by omega)).trans (h.2.2.2.1 q hq n1 n2 n3), h.2.2.2.2⟩
theorem gE_nw {J : zI} {g' : zG} (h : nwB g.1 6 I g J g') : gE g g' := ⟨by rw [h.1]; omega, by rw [h.1]; omega, fun k hk => (h.2 k hk).2.1, fun k hk _ _ _ => (h.2 k hk).2.2.1, fun k hk => (h.2 k hk).2.2.2⟩
def shG (g : zG) (lab : Nat → Nat) : Prop := (∀ i a, i < 16 → g.2.2.1 58 i = some a → 642 < a ∧ zK g a 8 zLt_State ∧ lab a = i) ∧ (∀ k a, k < 3 → g.2.2.1 59 k = some a → 642 < a ∧ zK g a 8 zLt_State ∧ lab a = 100 + k) ∧ ∀ k i a, k < 3 → i < 16 → g.2.2.1 60 (k * 16 + i) = some a → 642 < a ∧ zK g a 8 zLt_State ∧ lab a = i
abbrev rwT : Type := Nat → Int32
def shC (I : zI) (g : zG) (w m : Nat) (W : Nat → rwT) (Pr : Nat → rwT) (Pw : Nat → Nat) (Pa : Nat → Nat → rwT) : Prop := (∀ i, i < w → ∃ a, g.2.2.1 58 i = some a ∧ zRow I a (W i)) ∧ ∀ k, k < m → (∃ a, g.2.2.1 59 k = some a ∧ zRow I a (Pr k)) ∧ I 61 k = nI (Pw k) ∧ Pw k ≤ 16 ∧ ∀ i, i < Pw k → ∃ a, g.2.2.1 60 (k * 16 + i) = some a ∧ zRow I a (Pa k i)
def shI (I : zI) (g : zG) (w m : Nat) (W : Nat → rwT) (Pr : Nat → rwT) (Pw : Nat → Nat) (Pa : Nat → Nat → rwT) : Prop := (I 57 0 = nI w ∧ w ≤ 16 ∧ I 57 1 = nI m ∧ m ≤ 3) ∧ (∃ lab, shG g lab) ∧ shC I g w m W Pr Pw Pa
theorem zRow_copy {s t a : Nat} {R : rwT} (h : zRow I a R) (ha : a + 5 < s ∨ s + 5 < a) : zRow (f_copyS I s t) a R := zRow_of h (fun q h1 h2 => copyS_ne (by omega))
theorem shG_nw {J : zI} {g' : zG} {lab : Nat → Nat} {K : Nat} (h : shG g lab) (hs : zSt g) (hn : nwB g.1 K I g J g') : shG g' lab := by
  have e58 : ∀ q, q ≤ 642 → q < g.1 → g'.2.2.1 q = g.2.2.1 q := fun q _ h => (hn.2 q h).2.2.1
  have h6 := hs.1
  rw [shG, e58 58 (by decide) (by omega), e58 59 (by decide) (by omega), e58 60 (by decide) (by omega)]
  refine ⟨fun i a hi ha => ?_, fun k a hk ha => ?_, fun k i a hk hi ha => ?_⟩
  · obtain ⟨h1, h2, h3⟩ := h.1 i a hi ha; exact ⟨h1, zK_nw h2 hn rfl, h3⟩
  · obtain ⟨h1, h2, h3⟩ := h.2.1 k a hk ha; exact ⟨h1, zK_nw h2 hn rfl, h3⟩
  · obtain ⟨h1, h2, h3⟩ := h.2.2 k i a hk hi ha; exact ⟨h1, zK_nw h2 hn rfl, h3⟩
/-- a label that the heap does not know yet -/
theorem shG_un {lab : Nat → Nat} {n x : Nat} (h : shG g lab) (hn : g.1 ≤ n) : shG g (un lab n x) := by
  refine ⟨fun i a hi ha => ?_, fun k a hk ha => ?_, fun k i a hk hi ha => ?_⟩
  · obtain ⟨h1, h2, h3⟩ := h.1 i a hi ha; have := zK_lt h2; exact ⟨h1, h2, by rw [un_ne (by omega)]; exact h3⟩
  · obtain ⟨h1, h2, h3⟩ := h.2.1 k a hk ha; have := zK_lt h2; exact ⟨h1, h2, by rw [un_ne (by omega)]; exact h3⟩
  · obtain ⟨h1, h2, h3⟩ := h.2.2 k i a hk hi ha; have := zK_lt h2; exact ⟨h1, h2, by rw [un_ne (by omega)]; exact h3⟩
theorem shG_set58 {lab : Nat → Nat} {i b : Nat} (h : shG g lab) (hb : 642 < b ∧ zK g b 8 zLt_State ∧ lab b = i) : shG (gset g 58 i b) lab := by
  have hz : ∀ {a : Nat}, 642 < a → zK g a 8 zLt_State → zK (gset g 58 i b) a 8 zLt_State := fun h1 h2 => zK_set h2 (by omega)
  refine ⟨fun j a hj ha => ?_, fun k a hk ha => ?_, fun k j a hk hj ha => ?_⟩
  · have ha' : va_up g.2.2.1 58 (va_up (g.2.2.1 58) i (some b)) 58 j = some a := ha
    rw [va_eq] at ha'
    by_cases e : j = i
    · rw [e, va_eq] at ha'; cases ha'; exact ⟨hb.1, hz hb.1 hb.2.1, by rw [e]; exact hb.2.2⟩
    · rw [va_ne e] at ha'
      obtain ⟨h1, h2, h3⟩ := h.1 j a hj ha'; exact ⟨h1, hz h1 h2, h3⟩
  · have ha' : va_up g.2.2.1 58 (va_up (g.2.2.1 58) i (some b)) 59 k = some a := ha
    rw [va_ne (by decide)] at ha'
    obtain ⟨h1, h2, h3⟩ := h.2.1 k a hk ha'; exact ⟨h1, hz h1 h2, h3⟩
  · have ha' : va_up g.2.2.1 58 (va_up (g.2.2.1 58) i (some b)) 60 (k * 16 + j) = some a := ha
    rw [va_ne (by decide)] at ha'
    obtain ⟨h1, h2, h3⟩ := h.2.2 k j a hk hj ha'; exact ⟨h1, hz h1 h2, h3⟩
theorem shG_set59 {lab : Nat → Nat} {i b : Nat} (h : shG g lab) (hb : 642 < b ∧ zK g b 8 zLt_State ∧ lab b = 100 + i) : shG (gset g 59 i b) lab := by
  have hz : ∀ {a : Nat}, 642 < a → zK g a 8 zLt_State → zK (gset g 59 i b) a 8 zLt_State := fun h1 h2 => zK_set h2 (by omega)
  refine ⟨fun j a hj ha => ?_, fun k a hk ha => ?_, fun k j a hk hj ha => ?_⟩
  · have ha' : va_up g.2.2.1 59 (va_up (g.2.2.1 59) i (some b)) 58 j = some a := ha
    rw [va_ne (by decide)] at ha'
    obtain ⟨h1, h2, h3⟩ := h.1 j a hj ha'; exact ⟨h1, hz h1 h2, h3⟩
  · have ha' : va_up g.2.2.1 59 (va_up (g.2.2.1 59) i (some b)) 59 k = some a := ha
    rw [va_eq] at ha'
    by_cases e : k = i
    · rw [e, va_eq] at ha'; cases ha'; exact ⟨hb.1, hz hb.1 hb.2.1, by rw [e]; exact hb.2.2⟩
    · rw [va_ne e] at ha'
      obtain ⟨h1, h2, h3⟩ := h.2.1 k a hk ha'; exact ⟨h1, hz h1 h2, h3⟩
  · have ha' : va_up g.2.2.1 59 (va_up (g.2.2.1 59) i (some b)) 60 (k * 16 + j) = some a := ha
    rw [va_ne (by decide)] at ha'
    obtain ⟨h1, h2, h3⟩ := h.2.2 k j a hk hj ha'; exact ⟨h1, hz h1 h2, h3⟩
theorem shG_set60 {lab : Nat → Nat} {m i b : Nat} (h : shG g lab) (hi : i < 16) (hb : 642 < b ∧ zK g b 8 zLt_State ∧ lab b = i) : shG (gset g 60 (m * 16 + i) b) lab := by
  have hz : ∀ {a : Nat}, 642 < a → zK g a 8 zLt_State → zK (gset g 60 (m * 16 + i) b) a 8 zLt_State := fun h1 h2 => zK_set h2 (by omega)
  refine ⟨fun j a hj ha => ?_, fun k a hk ha => ?_, fun k j a hk hj ha => ?_⟩
  · have ha' : va_up g.2.2.1 60 (va_up (g.2.2.1 60) (m * 16 + i) (some b)) 58 j = some a := ha
    rw [va_ne (by decide)] at ha'
    obtain ⟨h1, h2, h3⟩ := h.1 j a hj ha'; exact ⟨h1, hz h1 h2, h3⟩
  · have ha' : va_up g.2.2.1 60 (va_up (g.2.2.1 60) (m * 16 + i) (some b)) 59 k = some a := ha
    rw [va_ne (by decide)] at ha'
    obtain ⟨h1, h2, h3⟩ := h.2.1 k a hk ha'; exact ⟨h1, hz h1 h2, h3⟩
  · have ha' : va_up g.2.2.1 60 (va_up (g.2.2.1 60) (m * 16 + i) (some b)) 60 (k * 16 + j) = some a := ha
    rw [va_eq] at ha'
    by_cases e : k * 16 + j = m * 16 + i
    · rw [e, va_eq] at ha'; cases ha'; exact ⟨hb.1, hz hb.1 hb.2.1, by rw [hb.2.2]; omega⟩
    · rw [va_ne e] at ha'
      obtain ⟨h1, h2, h3⟩ := h.2.2 k j a hk hj ha'; exact ⟨h1, hz h1 h2, h3⟩
/-- rows that the shelf holds stay when a is written over, unless they are a's -/
theorem shC_row {lab : Nat → Nat} {w m : Nat} {W Pr : Nat → rwT} {Pw : Nat → Nat} {Pa : Nat → Nat → rwT} {J : zI} (hg : shG g lab) (hC : shC I g w m W Pr Pw Pa) (hw : w ≤ 16) (hm : m ≤ 3) (e61 : ∀ k, k < m → J 61 k = I 61 k) (hr : ∀ c, 642 < c → zK g c 8 zLt_State → (∃ i, i < w ∧ g.2.2.1 58 i = some c) ∨ (∃ k, k < m ∧ g.2.2.1 59 k = some c) ∨ (∃ k i, k < m ∧ i < Pw k ∧ g.2.2.1 60 (k * 16 + i) = some c) → ∀ q, c ≤ q → q ≤ c + 5 → J q = I q) : shC J g w m W Pr Pw Pa := by
  refine ⟨fun i hi => ?_, fun k hk => ?_⟩
  · obtain ⟨c, h1, h2⟩ := hC.1 i hi
    obtain ⟨g1, g2, -⟩ := hg.1 i c (by omega) h1
    exact ⟨c, h1, zRow_of h2 (hr c g1 g2 (Or.inl ⟨i, hi, h1⟩))⟩
  · obtain ⟨⟨c, h1, h2⟩, h3, h4, h5⟩ := hC.2 k hk
    refine ⟨⟨c, h1, ?_⟩, by rw [e61 k hk]; exact h3, h4, fun i hi => ?_⟩
    · obtain ⟨g1, g2, -⟩ := hg.2.1 k c (by omega) h1
      exact zRow_of h2 (hr c g1 g2 (Or.inr (Or.inl ⟨k, hk, h1⟩)))
    · obtain ⟨c, h6, h7⟩ := h5 i hi
      obtain ⟨g1, g2, -⟩ := hg.2.2 k i c (by omega) (by omega) h6
      exact ⟨c, h6, zRow_of h7 (hr c g1 g2 (Or.inr (Or.inr ⟨k, i, hk, hi, h6⟩)))⟩
/-- what other methods do leaves the shelf -/
theorem shI_of {w m : Nat} {W Pr : Nat → rwT} {Pw : Nat → Nat} {Pa : Nat → Nat → rwT} {J : zI} (h : shI I g w m W Pr Pw Pa) (e : ∀ q, q = 57 ∨ q = 61 ∨ 642 < q → J q = I q) : shI J g w m W Pr Pw Pa := by
  obtain ⟨h1, ⟨lab, h2⟩, h3⟩ := h
  refine ⟨by rw [e 57 (Or.inl rfl)]; exact h1, ⟨lab, h2⟩, shC_row h2 h3 h1.2.1 h1.2.2.2 (fun k _ => by rw [e 61 (Or.inr (Or.inl rfl))]) (fun c hc _ _ q h4 h5 => e q (Or.inr (Or.inr (by omega))))⟩
theorem k_shelfForget (hl : l.stackTraces = false) (hd : 1 ≤ d) (hs : zSt g) : zD l Xi mX7_forget d [.ref 57] I g none (zup (zup I 57 0 (nI 0)) 57 1 (nI 0)) := by
  refine zC_of hl rfl rfl rfl (Nat.le_of_ble_eq_true rfl) (zav_r (zSt_ob hs 57 7 rfl).1 zav_0) ?_
  refine zJ_aload_n dX7_forget_0 rfl ?_
  refine zJ_iconst (v := nI 0) dX7_forget_1 rfl ?_
  refine zP_puti lf_X7_27 (zSt_ob hs 57 7 rfl) rfl dX7_forget_2 ?_
  refine zJ_aload_n dX7_forget_5 rfl ?_
  refine zJ_iconst (v := nI 0) dX7_forget_6 rfl ?_
  refine zP_puti lf_X7_31 (zSt_ob hs 57 7 rfl) rfl dX7_forget_7 ?_
  refine zJ_vret rfl dX7_forget_10 ?_
  exact ⟨rfl, rfl⟩
theorem shC_nw {w m : Nat} {W Pr : Nat → rwT} {Pw : Nat → Nat} {Pa : Nat → Nat → rwT} {J : zI} {g' : zG} {lab : Nat → Nat} {K : Nat} (hs : zSt g) (hg : shG g lab) (hC : shC I g w m W Pr Pw Pa) (hw : w ≤ 16) (hm : m ≤ 3) (hn : nwB g.1 K I g J g') : shC J g' w m W Pr Pw Pa := by
  have h6 := hs.1
  have h1 : shC J g w m W Pr Pw Pa := shC_row hg hC hw hm (fun k _ => by rw [(hn.2 61 (by omega)).1]) (fun c hc hk _ q h4 h5 => (hn.2 q (by have := zK_lt hk; omega)).1)
  unfold shC at h1 ⊢
  rw [(hn.2 58 (by omega)).2.2.1, (hn.2 59 (by omega)).2.2.1, (hn.2 60 (by omega)).2.2.1]
  exact h1
set_option maxHeartbeats 1000000 in
theorem k_keepWork (hl : l.stackTraces = false) (hd : 5 ≤ d) (hs : zSt g) {w m : Nat} {W Pr : Nat → rwT} {Pw : Nat → Nat} {Pa : Nat → Nat → rwT} {R : rwT} (hS : shI I g w m W Pr Pw Pa) (hw : w < 16) (hR : zRow I 62 R) (hB : g.1 + 10 < zB) (h643 : 643 ≤ g.1) : zC l Xi mX7_keepWork d 6 588 [.ref 57, .ref 62] (I, g) (fun r h' => r = .inl none ∧ ∃ J g', h' = (J, g') ∧ gE g g' ∧ (∀ a, a ≤ 642 → a ≠ 57 → J a = I a) ∧ shI J g' (w + 1) m (un W w R) Pr Pw Pa) := by
  refine zC_of hl rfl rfl rfl (Nat.le_of_ble_eq_true rfl) (zav_r (zSt_ob hs 57 7 rfl).1 (zav_r (zSt_ob hs 62 8 rfl).1 zav_0)) ?_
  obtain ⟨⟨s1, s2, s3, s4⟩, ⟨lab, hG⟩, hC⟩ := hS
  have h45 : ∀ (J : zI) (g' : zG) (a : Nat) (lab : Nat → Nat), zSt g' → gE g g' → (∀ q, q ≤ 642 → J q = I q) → shG g' lab → shC J g' w m W Pr Pw Pa → g'.2.2.1 58 w = some a → (0 < m → ∀ c, 642 < c → zK g' c 8 zLt_State → (∃ i, i < w ∧ g'.2.2.1 58 i = some c) ∨ (∃ k, k < m ∧ g'.2.2.1 59 k = some c) ∨ (∃ k i, k < m ∧ i < Pw k ∧ g'.2.2.1 60 (k * 16 + i) = some c) → c ≠ a) → zJ l Xi mX7_keepWork d 0 0 45 [some (.ref 57), some (.ref 62)] [] (J, g') (fun r h' => r = .inl none ∧ ∃ J g', h' = (J, g') ∧ gE g g' ∧ (∀ a, a ≤ 642 → a ≠ 57 → J a = I a) ∧ shI J g' (w + 1) m (un W w R) Pr Pw Pa) := by
    intro J g' a lab hs hE hJ hG hC ha hfr
    obtain ⟨a1, a2, a3⟩ := hG.1 w a hw ha
    have hsep : ∀ c, 642 < c → zK g' c 8 zLt_State → (∃ i, i < w ∧ g'.2.2.1 58 i = some c) ∨ (∃ k, k < m ∧ g'.2.2.1 59 k = some c) ∨ (∃ k i, k < m ∧ i < Pw k ∧ g'.2.2.1 60 (k * 16 + i) = some c) → c + 5 < a ∨ a + 5 < c := fun c h1 h2 h3 => by
      refine zK_sep h2 a2 ?_
      rcases h3 with ⟨i, hi, h4⟩ | h4
      · intro z
        have := (hG.1 i c (by omega) h4).2.2
        rw [z, a3] at this
        omega
      · have hm0 : 0 < m := by rcases h4 with ⟨k, hk, -⟩ | ⟨k, i, hk, -⟩ <;> omega
        exact hfr hm0 c h1 h2 (Or.inr h4)
    refine zJ_aload_n dX7_keepWork_45 rfl ?_
    refine zP_getr lf_X7_11 (zSt_ob hs 57 7 rfl) rfl (zSt_rf hs 57 2 58 rfl) dX7_keepWork_46 ?_
    refine zJ_aload_n dX7_keepWork_49 rfl ?_
    refine zP_geti lf_X7_27 (zSt_ob hs 57 7 rfl) rfl dX7_keepWork_50 ?_
    rw [hJ 57 (by decide), s1]
    refine zP_aald (zSt_q hs 58 16 rfl).1 (zSt_q hs 58 16 rfl).2 (by first | assumption | with_reducible exact vp_in_nI (by omega) (by omega) | (simp (disch := omega) only [nI_add, pk_mul, pk_sub, pk_div, pk_rem, nI_clamp]; with_reducible exact vp_in_nI (by omega) (by omega))) (by rw [nI_clamp (by omega)]; exact ha) dX7_keepWork_53 ?_
    refine zJ_aload_n dX7_keepWork_54 rfl ?_
    refine zP_callVv [_] _ lv_X7_35 (k_X8_copyFrom (d := d - 1) hl (by omega) a2 (zSt_state hs)) a2.1 rfl (by omega) (Nat.le_of_ble_eq_true rfl) rfl dX7_keepWork_55 ?_
    refine zJ_aload_n dX7_keepWork_58 rfl ?_
    refine zJ_dup dX7_keepWork_59 rfl ?_
    refine zP_geti lf_X7_27 (zSt_ob hs 57 7 rfl) rfl dX7_keepWork_60 ?_
    rw [copyS_ne (by omega), hJ 57 (by decide), s1]
    refine zJ_iconst (v := nI 1) dX7_keepWork_63 rfl ?_
    refine zJ_iadd dX7_keepWork_64 ?_
    rw [nI_add]
    refine zP_puti lf_X7_27 (zSt_ob hs 57 7 rfl) rfl dX7_keepWork_65 ?_
    refine zJ_vret rfl dX7_keepWork_68 ?_
    have e57 : f_copyS J a 62 57 = I 57 := by rw [copyS_ne (by omega), hJ 57 (by decide)]
    refine ⟨rfl, _, g', rfl, hE, fun q hq hq2 => by rw [zup_row hq2, copyS_ne (by omega), hJ q hq], ⟨by rw [zup_same, upd_at], by omega, by rw [zup_same, upd_ne (by decide), e57]; exact s3, s4⟩, ⟨lab, hG⟩, ?_⟩
    have h1 : shC (zup (f_copyS J a 62) 57 0 (nI (w + 1))) g' w m W Pr Pw Pa := shC_row hG hC (by omega) s4 (fun k hk => by rw [zup_row (by decide), copyS_ne (by omega)]) (fun c h1 h2 h3 q h4 h5 => by have := hsep c h1 h2 h3; rw [zup_row (by omega), copyS_ne (by omega)])
    refine ⟨fun i hi => ?_, h1.2⟩
    by_cases z : i = w
    · rw [z, un_at]
      refine ⟨a, ha, zRow_zup (copyS_row (by omega) (zRow_of hR (fun q h4 h5 => hJ q (by omega)))) (by omega)⟩
    · rw [un_ne z]; exact h1.1 i (by omega)
  have h29 : zJ l Xi mX7_keepWork d 6 588 29 [some (.ref 57), some (.ref 62)] [] (I, g) (fun r h' => r = .inl none ∧ ∃ J g', h' = (J, g') ∧ gE g g' ∧ (∀ a, a ≤ 642 → a ≠ 57 → J a = I a) ∧ shI J g' (w + 1) m (un W w R) Pr Pw Pa) := by
    refine zJ_aload_n dX7_keepWork_29 rfl ?_
    refine zP_getr lf_X7_11 (zSt_ob hs 57 7 rfl) rfl (zSt_rf hs 57 2 58 rfl) dX7_keepWork_30 ?_
    refine zJ_aload_n dX7_keepWork_33 rfl ?_
    refine zP_geti lf_X7_27 (zSt_ob hs 57 7 rfl) rfl dX7_keepWork_34 ?_
    rw [s1]
    refine zP_newS rfl hl (by omega) (Nat.le_of_ble_eq_true rfl) hB dX7_keepWork_37 dX7_keepWork_40 dX7_keepWork_41 (fun J g1 hn hk => ?_)
    have hs0 := hs
    have hs := zSt_nw hs hn (by omega)
    refine zP_aast (zSt_q hs 58 16 rfl).1 (zSt_q hs 58 16 rfl).2 hk.1 (by first | assumption | with_reducible exact vp_in_nI (by omega) (by omega) | (simp (disch := omega) only [nI_add, pk_mul, pk_sub, pk_div, pk_rem, nI_clamp]; with_reducible exact vp_in_nI (by omega) (by omega))) dX7_keepWork_44 ?_
    rw [nI_clamp (by omega)]
    have hG1 := shG_un (n := g.1) (x := w) hG (Nat.le_refl _)
    have hG2 := shG_nw hG1 hs0 hn
    have hG3 := shG_set58 (i := w) (b := g.1) hG2 ⟨by omega, hk, un_at⟩
    have hC2 := shC_nw hs0 hG hC s2 s4 hn
    refine h45 J (gset g1 58 w g.1) g.1 _ (zSt_set hs (Or.inl rfl)) (gE_set (gE_nw hn) (Or.inl rfl)) (fun q hq => (hn.2 q (by omega)).1) hG3 ⟨fun i hi => ?_, fun k hk => ?_⟩ ?_ (fun _ c h1 h2 h3 z => ?_)
    · obtain ⟨c, h1, h2⟩ := hC2.1 i hi
      refine ⟨c, ?_, h2⟩
      show va_up g1.2.2.1 58 (va_up (g1.2.2.1 58) w (some g.1)) 58 i = some c
      rw [va_eq, va_ne (by omega)]; exact h1
    · obtain ⟨⟨c, h1, h2⟩, h3, h4, h5⟩ := hC2.2 k hk
      refine ⟨⟨c, ?_, h2⟩, h3, h4, fun i hi => ?_⟩
      · show va_up g1.2.2.1 58 (va_up (g1.2.2.1 58) w (some g.1)) 59 k = some c
        rw [va_ne (by decide)]; exact h1
      · obtain ⟨c, h6, h7⟩ := h5 i hi
        refine ⟨c, ?_, h7⟩
        show va_up g1.2.2.1 58 (va_up (g1.2.2.1 58) w (some g.1)) 60 _ = some c
        rw [va_ne (by decide)]; exact h6
    · show va_up g1.2.2.1 58 (va_up (g1.2.2.1 58) w (some g.1)) 58 w = some g.1
      rw [va_eq, va_eq]
    · subst z
      have h6 := hs0.1
      rcases h3 with ⟨i, hi, h4⟩ | ⟨k, hk2, h4⟩ | ⟨k, i, hk2, hi, h4⟩
      · have h4' : va_up g1.2.2.1 58 (va_up (g1.2.2.1 58) w (some g.1)) 58 i = some g.1 := h4
        rw [va_eq, va_ne (by omega), (hn.2 58 (by omega)).2.2.1] at h4'
        have := zK_lt (hG.1 i g.1 (by omega) h4').2.1
        omega
      · have h4' : va_up g1.2.2.1 58 (va_up (g1.2.2.1 58) w (some g.1)) 59 k = some g.1 := h4
        rw [va_ne (by decide), (hn.2 59 (by omega)).2.2.1] at h4'
        have := zK_lt (hG.2.1 k g.1 (by omega) h4').2.1
        omega
      · have h4' : va_up g1.2.2.1 58 (va_up (g1.2.2.1 58) w (some g.1)) 60 (k * 16 + i) = some g.1 := h4
        have := (hC2.2 k hk2).2.2.1
        rw [va_ne (by decide), (hn.2 60 (by omega)).2.2.1] at h4'
        have := zK_lt (hG.2.2 k i g.1 (by omega) (by omega) h4').2.1
        omega
  by_cases hm : 0 < m
  · skip
    refine zJ_aload_n dX7_keepWork_0 rfl ?_
    refine zP_geti lf_X7_27 (zSt_ob hs 57 7 rfl) rfl dX7_keepWork_1 ?_
    refine zJ_bipush (v := nI 16) dX7_keepWork_4 rfl ?_
    rw [s1]
    refine zJ_icmp_lt 10 dX7_keepWork_6 (by decide) (fun _ => ?_) (fun c6 => absurd (nI_lt (by omega) (by omega)) c6)
    refine zJ_aload_n dX7_keepWork_10 rfl ?_
    refine zP_geti lf_X7_31 (zSt_ob hs 57 7 rfl) rfl dX7_keepWork_11 ?_
    rw [s3]
    refine zJ_if_gt 29 dX7_keepWork_14 (by decide) (fun _ => ?_) (fun c14 => absurd (nI_lt hm (by omega)) c14)
    exact h29
  · cases ha : g.2.2.1 58 w with
    | none =>
      refine zJ_aload_n dX7_keepWork_0 rfl ?_
      refine zP_geti lf_X7_27 (zSt_ob hs 57 7 rfl) rfl dX7_keepWork_1 ?_
      refine zJ_bipush (v := nI 16) dX7_keepWork_4 rfl ?_
      rw [s1]
      refine zJ_icmp_lt 10 dX7_keepWork_6 (by decide) (fun _ => ?_) (fun c6 => absurd (nI_lt (by omega) (by omega)) c6)
      refine zJ_aload_n dX7_keepWork_10 rfl ?_
      refine zP_geti lf_X7_31 (zSt_ob hs 57 7 rfl) rfl dX7_keepWork_11 ?_
      rw [s3]
      refine zJ_if_gt 29 dX7_keepWork_14 (by decide) (fun c14 => absurd c14 (by rw [show m = 0 by omega]; decide)) (fun _ => ?_)
      refine zJ_aload_n dX7_keepWork_17 rfl ?_
      refine zP_getr lf_X7_11 (zSt_ob hs 57 7 rfl) rfl (zSt_rf hs 57 2 58 rfl) dX7_keepWork_18 ?_
      refine zJ_aload_n dX7_keepWork_21 rfl ?_
      refine zP_geti lf_X7_27 (zSt_ob hs 57 7 rfl) rfl dX7_keepWork_22 ?_
      rw [s1]
      refine zP_aaldN (zSt_q hs 58 16 rfl).1 (zSt_q hs 58 16 rfl).2 (by first | assumption | with_reducible exact vp_in_nI (by omega) (by omega) | (simp (disch := omega) only [nI_add, pk_mul, pk_sub, pk_div, pk_rem, nI_clamp]; with_reducible exact vp_in_nI (by omega) (by omega))) (by rw [nI_clamp (by omega)]; exact ha) dX7_keepWork_25 ?_
      refine zJ_ifnonnullN dX7_keepWork_26 ?_
      exact h29
    | some a =>
      obtain ⟨a1, a2, a3⟩ := hG.1 w a hw ha
      refine zJ_wid (kc := 0) (ks := 0) (by decide) (by decide) ?_
      refine zJ_aload_n dX7_keepWork_0 rfl ?_
      refine zP_geti lf_X7_27 (zSt_ob hs 57 7 rfl) rfl dX7_keepWork_1 ?_
      refine zJ_bipush (v := nI 16) dX7_keepWork_4 rfl ?_
      rw [s1]
      refine zJ_icmp_lt 10 dX7_keepWork_6 (by decide) (fun _ => ?_) (fun c6 => absurd (nI_lt (by omega) (by omega)) c6)
      refine zJ_aload_n dX7_keepWork_10 rfl ?_
      refine zP_geti lf_X7_31 (zSt_ob hs 57 7 rfl) rfl dX7_keepWork_11 ?_
      rw [s3]
      refine zJ_if_gt 29 dX7_keepWork_14 (by decide) (fun c14 => absurd c14 (by rw [show m = 0 by omega]; decide)) (fun _ => ?_)
      refine zJ_aload_n dX7_keepWork_17 rfl ?_
      refine zP_getr lf_X7_11 (zSt_ob hs 57 7 rfl) rfl (zSt_rf hs 57 2 58 rfl) dX7_keepWork_18 ?_
      refine zJ_aload_n dX7_keepWork_21 rfl ?_
      refine zP_geti lf_X7_27 (zSt_ob hs 57 7 rfl) rfl dX7_keepWork_22 ?_
      rw [s1]
      refine zP_aald (zSt_q hs 58 16 rfl).1 (zSt_q hs 58 16 rfl).2 (by first | assumption | with_reducible exact vp_in_nI (by omega) (by omega) | (simp (disch := omega) only [nI_add, pk_mul, pk_sub, pk_div, pk_rem, nI_clamp]; with_reducible exact vp_in_nI (by omega) (by omega))) (by rw [nI_clamp (by omega)]; exact ha) dX7_keepWork_25 ?_
      refine zJ_ifnonnull 45 dX7_keepWork_26 (by decide) ?_
      exact h45 I g a lab hs gE_rfl (fun _ _ => rfl) hG hC ha (fun z => absurd z hm)
theorem k_takeWork (hl : l.stackTraces = false) (hd : 5 ≤ d) (hs : zSt g) {w m : Nat} {W Pr : Nat → rwT} {Pw : Nat → Nat} {Pa : Nat → Nat → rwT} (hS : shI I g (w + 1) m W Pr Pw Pa) : zEv l Xi mX7_takeWork d [.ref 57, .ref 62] I g (fun J => (∀ a, a ≠ 57 → (a < 62 ∨ 67 < a) → J a = I a) ∧ zRow J 62 (W w) ∧ shI J g w m W Pr Pw Pa) := by
  refine zC_of hl rfl rfl rfl (Nat.le_of_ble_eq_true rfl) (zav_r (zSt_ob hs 57 7 rfl).1 (zav_r (zSt_ob hs 62 8 rfl).1 zav_0)) ?_
  obtain ⟨⟨s1, s2, s3, s4⟩, ⟨lab, hG⟩, hC⟩ := hS
  obtain ⟨a, ha, hr⟩ := hC.1 w (by omega)
  obtain ⟨a1, a2, a3⟩ := hG.1 w a (by omega) ha
  refine zJ_aload_n dX7_takeWork_0 rfl ?_
  refine zP_geti lf_X7_27 (zSt_ob hs 57 7 rfl) rfl dX7_takeWork_1 ?_
  rw [s1]
  refine zJ_if_le 44 dX7_takeWork_4 (by decide) (fun c4 => absurd c4 (nI_nle (by omega) (by omega))) (fun _ => ?_)
  refine zJ_aload_n dX7_takeWork_7 rfl ?_
  refine zP_getr lf_X7_11 (zSt_ob hs 57 7 rfl) rfl (zSt_rf hs 57 2 58 rfl) dX7_takeWork_8 ?_
  refine zJ_aload_n dX7_takeWork_11 rfl ?_
  refine zP_geti lf_X7_27 (zSt_ob hs 57 7 rfl) rfl dX7_takeWork_12 ?_
  rw [s1]
  refine zJ_iconst (v := nI 1) dX7_takeWork_15 rfl ?_
  refine zJ_isub dX7_takeWork_16 ?_
  rw [pk_sub (by omega), Nat.add_sub_cancel]
  refine zP_aald (zSt_q hs 58 16 rfl).1 (zSt_q hs 58 16 rfl).2 (by first | assumption | with_reducible exact vp_in_nI (by omega) (by omega) | (simp (disch := omega) only [nI_add, pk_mul, pk_sub, pk_div, pk_rem, nI_clamp]; with_reducible exact vp_in_nI (by omega) (by omega))) (by rw [nI_clamp (by omega)]; exact ha) dX7_takeWork_17 ?_
  refine zJ_ifnull dX7_takeWork_18 ?_
  refine zJ_aload_n dX7_takeWork_21 rfl ?_
  refine zJ_dup dX7_takeWork_22 rfl ?_
  refine zP_geti lf_X7_27 (zSt_ob hs 57 7 rfl) rfl dX7_takeWork_23 ?_
  rw [s1]
  refine zJ_iconst (v := nI 1) dX7_takeWork_26 rfl ?_
  refine zJ_isub dX7_takeWork_27 ?_
  rw [pk_sub (by omega), Nat.add_sub_cancel]
  refine zP_puti lf_X7_27 (zSt_ob hs 57 7 rfl) rfl dX7_takeWork_28 ?_
  refine zJ_aload_n dX7_takeWork_31 rfl ?_
  refine zJ_aload_n dX7_takeWork_32 rfl ?_
  refine zP_getr lf_X7_11 (zSt_ob hs 57 7 rfl) rfl (zSt_rf hs 57 2 58 rfl) dX7_takeWork_33 ?_
  refine zJ_aload_n dX7_takeWork_36 rfl ?_
  refine zP_geti lf_X7_27 (zSt_ob hs 57 7 rfl) rfl dX7_takeWork_37 ?_
  rw [zup_same, upd_at]
  refine zP_aald (zSt_q hs 58 16 rfl).1 (zSt_q hs 58 16 rfl).2 (by first | assumption | with_reducible exact vp_in_nI (by omega) (by omega) | (simp (disch := omega) only [nI_add, pk_mul, pk_sub, pk_div, pk_rem, nI_clamp]; with_reducible exact vp_in_nI (by omega) (by omega))) (by rw [nI_clamp (by omega)]; exact ha) dX7_takeWork_40 ?_
  refine zP_callVv [_] _ lv_X7_35 (k_X8_copyFrom (d := d - 1) hl (by omega) (zSt_state hs) a2) (zSt_ob hs 62 8 rfl) rfl (by omega) (Nat.le_of_ble_eq_true rfl) rfl dX7_takeWork_41 ?_
  refine zJ_vret rfl dX7_takeWork_44 ?_
  have e : ∀ q, 642 < q → f_copyS (zup I 57 0 (nI w)) 62 a q = I q := fun q hq => by rw [copyS_ne (by omega), zup_row (by omega)]
  refine ⟨rfl, _, rfl, fun q h1 h2 => by rw [copyS_ne (by omega), zup_row h1], copyS_row (by omega) (zRow_zup hr (by omega)), ⟨by rw [copyS_ne (by omega), zup_same, upd_at], by omega, by rw [copyS_ne (by omega), zup_same, upd_ne (by decide)]; exact s3, s4⟩, ⟨lab, hG⟩, ?_⟩
  have h1 : shC (f_copyS (zup I 57 0 (nI w)) 62 a) g (w + 1) m W Pr Pw Pa := shC_row hG hC s2 s4 (fun k hk => by rw [copyS_ne (by omega), zup_row (by decide)]) (fun c h1 h2 h3 q h4 h5 => e q (by omega))
  exact ⟨fun i hi => h1.1 i (by omega), h1.2⟩
end ZShelf
