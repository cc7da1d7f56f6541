/-! ===== Heap: push and pop ===== -/
abbrev hT (f : Nat → Int32) (i : Nat) : Int := (f i).toInt
/-- each is no less than its parent -/
def hpO (f : Nat → Int32) (n : Nat) : Prop := ∀ j, 0 < j → j < n → hT f ((j - 1) / 2) ≤ hT f j
/-- the first n hold just the things of S, each once -/
def hpS (f : Nat → Int32) (n : Nat) (S : Int32 → Prop) : Prop := (∀ v, S v ↔ ∃ i, i < n ∧ f i = v) ∧ ∀ i j, i < n → j < n → f i = f j → i = j
def hpH (f : Nat → Int32) (n : Nat) (S : Int32 → Prop) : Prop := hpO f n ∧ hpS f n S
theorem upd_at {f : Nat → Int32} {k : Nat} {x : Int32} : upd f k x k = x := by simp [upd]
theorem upd_ne {f : Nat → Int32} {k j : Nat} {x : Int32} (h : j ≠ k) : upd f k x j = f j := by simp [upd, h]
def swp (a b i : Nat) : Nat := if i = a then b else if i = b then a else i
theorem swp_swp {a b i : Nat} : swp a b (swp a b i) = i := by
  unfold swp
  by_cases h1 : i = a
  · rw [if_pos h1]
    by_cases h2 : b = a
    · rw [if_pos h2]; omega
    · rw [if_neg h2, if_pos rfl]; omega
  · rw [if_neg h1]
    by_cases h2 : i = b
    · rw [if_pos h2, if_pos rfl]; omega
    · rw [if_neg h2, if_neg h1, if_neg h2]
theorem swp_lt {a b i n : Nat} (ha : a < n) (hb : b < n) (hi : i < n) : swp a b i < n := by
  unfold swp
  by_cases h1 : i = a
  · rw [if_pos h1]; exact hb
  · rw [if_neg h1]
    by_cases h2 : i = b
    · rw [if_pos h2]; exact ha
    · rw [if_neg h2]; exact hi
theorem hpS_swap {f : Nat → Int32} {n a b : Nat} {x : Int32} {S : Int32 → Prop} (ha : a < n) (hb : b < n) (hab : a ≠ b) (h : hpS (upd f a x) n S) : hpS (upd (upd f a (f b)) b x) n S := by
  have key : ∀ i, upd (upd f a (f b)) b x i = upd f a x (swp a b i) := by
    intro i
    unfold swp
    by_cases h1 : i = b
    · subst h1; rw [upd_at, if_neg (Ne.symm hab), if_pos rfl, upd_at]
    · by_cases h2 : i = a
      · subst h2; rw [upd_ne h1, upd_at, if_pos rfl, upd_ne (Ne.symm hab)]
      · rw [upd_ne h1, upd_ne h2, if_neg h2, if_neg h1, upd_ne h2]
  refine ⟨fun v => ?_, fun i j hi hj e => ?_⟩
  · rw [h.1 v]
    constructor
    · rintro ⟨i, hi, e⟩
      exact ⟨swp a b i, swp_lt ha hb hi, by rw [key, swp_swp]; exact e⟩
    · rintro ⟨i, hi, e⟩
      rw [key] at e
      exact ⟨_, swp_lt ha hb hi, e⟩
  · rw [key, key] at e
    have := congrArg (swp a b) (h.2 _ _ (swp_lt ha hb hi) (swp_lt ha hb hj) e)
    rw [swp_swp, swp_swp] at this
    exact this
/-- push, on its way up: all in order but hole h and its parent -/
def puI (f : Nat → Int32) (n h : Nat) (x : Int32) : Prop := (∀ j, 0 < j → j < n → j ≠ h → hT (upd f h x) ((j - 1) / 2) ≤ hT (upd f h x) j) ∧ (0 < h → ∀ j, j < n → (j - 1) / 2 = h → 0 < j → hT (upd f h x) ((h - 1) / 2) ≤ hT (upd f h x) j)
theorem puI_0 {f : Nat → Int32} {n : Nat} {x : Int32} (h : hpO f n) : puI f (n + 1) n x := by
  refine ⟨fun j h0 hj hne => ?_, fun h0 j hj hp hj0 => by omega⟩
  have h1 : j < n := by omega
  have := h j h0 h1
  simp only [hT] at this ⊢
  rw [upd_ne (show (j - 1) / 2 ≠ n by omega), upd_ne hne]
  exact this
theorem puI_up {f : Nat → Int32} {n h : Nat} {x : Int32} (h0 : 0 < h) (hn : h < n) (hx : x.toInt < hT f ((h - 1) / 2)) (H : puI f n h x) : puI (upd f h (f ((h - 1) / 2))) n ((h - 1) / 2) x := by
  have hp : (h - 1) / 2 < h := by omega
  have hph : (h - 1) / 2 ≠ h := by omega
  obtain ⟨H1, H2⟩ := H
  have v1 : ∀ i, i ≠ h → i ≠ (h - 1) / 2 → upd (upd f h (f ((h - 1) / 2))) ((h - 1) / 2) x i = f i := fun i a b => by rw [upd_ne b, upd_ne a]
  have v2 : upd (upd f h (f ((h - 1) / 2))) ((h - 1) / 2) x h = f ((h - 1) / 2) := by rw [upd_ne (Ne.symm hph), upd_at]
  have v3 : upd (upd f h (f ((h - 1) / 2))) ((h - 1) / 2) x ((h - 1) / 2) = x := upd_at
  simp only [hT] at *
  refine ⟨fun j hj0 hj hne => ?_, fun hp0 j hj hjp hj0 => ?_⟩
  · simp only [hT]
    by_cases e1 : j = h
    · subst e1; rw [v3, v2]; omega
    · rw [v1 j e1 hne]
      by_cases e2 : (j - 1) / 2 = h
      · rw [e2, v2]
        have := H2 h0 j hj e2 hj0
        rw [upd_ne hph, upd_ne e1] at this
        exact this
      · by_cases e3 : (j - 1) / 2 = (h - 1) / 2
        · rw [e3, v3]
          have := H1 j hj0 hj e1
          rw [e3, upd_ne hph, upd_ne e1] at this
          omega
        · rw [v1 _ e2 e3]
          have := H1 j hj0 hj e1
          rw [upd_ne e2, upd_ne e1] at this
          exact this
  · simp only [hT]
    have e4 : ((h - 1) / 2 - 1) / 2 ≠ h := by omega
    have e5 : ((h - 1) / 2 - 1) / 2 ≠ (h - 1) / 2 := by omega
    have A := H1 ((h - 1) / 2) hp0 (by omega) hph
    rw [upd_ne e4, upd_ne hph] at A
    rw [v1 _ e4 e5]
    by_cases e1 : j = h
    · subst e1; rw [v2]; exact A
    · have B := H1 j hj0 hj e1
      rw [hjp, upd_ne hph, upd_ne e1] at B
      rw [v1 j e1 (by omega)]
      omega
theorem puI_end {f : Nat → Int32} {n h : Nat} {x : Int32} (hh : h = 0 ∨ hT f ((h - 1) / 2) ≤ x.toInt) (H : puI f n h x) : hpO (upd f h x) n := by
  intro j h0 hj
  by_cases e : j = h
  · subst e
    rcases hh with hh | hh
    · omega
    · simp only [hT] at hh ⊢
      rw [upd_ne (show (j - 1) / 2 ≠ j by omega), upd_at]
      exact hh
  · exact H.1 j h0 hj e
/-- pop, on its way down: all in order but the children of h -/
def poI (f : Nat → Int32) (n h : Nat) (x : Int32) : Prop := (∀ j, 0 < j → j < n → (j - 1) / 2 ≠ h → hT (upd f h x) ((j - 1) / 2) ≤ hT (upd f h x) j) ∧ (0 < h → ∀ j, 0 < j → j < n → (j - 1) / 2 = h → hT (upd f h x) ((h - 1) / 2) ≤ hT (upd f h x) j)
theorem poI_down {f : Nat → Int32} {n h c : Nat} {x : Int32} (hc0 : 0 < c) (hc : c < n) (hpc : (c - 1) / 2 = h) (hx : hT f c < x.toInt) (hmin : ∀ j, 0 < j → j < n → (j - 1) / 2 = h → hT f c ≤ hT f j) (H : poI f n h x) : poI (upd f h (f c)) n c x := by
  have hch : c ≠ h := by omega
  obtain ⟨H1, H2⟩ := H
  have v1 : ∀ i, i ≠ h → i ≠ c → upd (upd f h (f c)) c x i = f i := fun i a b => by rw [upd_ne b, upd_ne a]
  have v2 : upd (upd f h (f c)) c x h = f c := by rw [upd_ne (Ne.symm hch), upd_at]
  have v3 : upd (upd f h (f c)) c x c = x := upd_at
  simp only [hT] at *
  refine ⟨fun j hj0 hj hne => ?_, fun _ j hj0 hj hjp => ?_⟩
  · simp only [hT]
    by_cases e1 : (j - 1) / 2 = h
    · rw [e1, v2]
      by_cases e2 : j = c
      · subst e2; rw [v3]; omega
      · rw [v1 j (by omega) e2]; exact hmin j hj0 hj e1
    · rw [v1 _ e1 hne]
      by_cases e2 : j = h
      · subst e2
        rw [v2]
        have := H2 hj0 c hc0 hc hpc
        rw [upd_ne (by omega), upd_ne hch] at this
        exact this
      · have e3 : j ≠ c := fun e => e1 (by rw [e]; exact hpc)
        rw [v1 j e2 e3]
        have := H1 j hj0 hj e1
        rw [upd_ne e1, upd_ne e2] at this
        exact this
  · simp only [hT]
    rw [hpc, v2, v1 j (by omega) (by omega)]
    have := H1 j hj0 hj (by omega)
    rw [hjp, upd_ne hch, upd_ne (by omega)] at this
    exact this
theorem poI_end {f : Nat → Int32} {n h : Nat} {x : Int32} (hh : ∀ j, 0 < j → j < n → (j - 1) / 2 = h → x.toInt ≤ hT f j) (H : poI f n h x) : hpO (upd f h x) n := by
  intro j h0 hj
  by_cases e : (j - 1) / 2 = h
  · have := hh j h0 hj e
    simp only [hT] at this ⊢
    rw [e, upd_at, upd_ne (show j ≠ h by omega)]
    exact this
  · exact H.1 j h0 hj e
theorem hpO_min {f : Nat → Int32} {n : Nat} (h : hpO f n) : ∀ j, j < n → hT f 0 ≤ hT f j := by
  intro j
  induction j using Nat.strongRecOn with
  | ind j ih =>
    intro hj
    by_cases e : j = 0
    · subst e; exact Int.le_refl _
    · exact Int.le_trans (ih ((j - 1) / 2) (by omega) (by omega)) (h j (by omega) hj)
theorem hpS_push {f : Nat → Int32} {n : Nat} {x : Int32} {S : Int32 → Prop} (h : hpS f n S) (hx : ¬ S x) : hpS (upd f n x) (n + 1) (fun v => S v ∨ v = x) := by
  refine ⟨fun v => ⟨fun q => ?_, fun q => ?_⟩, fun i j hi hj e => ?_⟩
  · rcases q with q | q
    · obtain ⟨i, hi, e⟩ := (h.1 v).mp q
      exact ⟨i, by omega, by rw [upd_ne (by omega)]; exact e⟩
    · exact ⟨n, by omega, by rw [upd_at, q]⟩
  · obtain ⟨i, hi, e⟩ := q
    by_cases e1 : i = n
    · subst e1; rw [upd_at] at e; exact Or.inr e.symm
    · rw [upd_ne e1] at e; exact Or.inl ((h.1 v).mpr ⟨i, by omega, e⟩)
  · by_cases e1 : i = n
    · by_cases e2 : j = n
      · omega
      · subst e1; rw [upd_at, upd_ne e2] at e; exact absurd ((h.1 x).mpr ⟨j, by omega, e.symm⟩) hx
    · by_cases e2 : j = n
      · subst e2; rw [upd_at, upd_ne e1] at e; exact absurd ((h.1 x).mpr ⟨i, by omega, e⟩) hx
      · rw [upd_ne e1, upd_ne e2] at e; exact h.2 i j (by omega) (by omega) e
theorem hpS_pop {f : Nat → Int32} {n : Nat} {S : Int32 → Prop} (h : hpS f (n + 1) S) : hpS (upd f 0 (f n)) n (fun v => S v ∧ v ≠ f 0) := by
  refine ⟨fun v => ⟨fun q => ?_, fun q => ?_⟩, fun i j hi hj e => ?_⟩
  · obtain ⟨i, hi, e⟩ := (h.1 v).mp q.1
    have h0 : i ≠ 0 := fun z => q.2 (by rw [← e, z])
    by_cases e1 : i = n
    · exact ⟨0, by omega, by rw [upd_at, ← e, e1]⟩
    · exact ⟨i, by omega, by rw [upd_ne h0]; exact e⟩
  · obtain ⟨i, hi, e⟩ := q
    by_cases e1 : i = 0
    · subst e1
      rw [upd_at] at e
      refine ⟨(h.1 v).mpr ⟨n, by omega, e⟩, fun z => ?_⟩
      have := h.2 n 0 (by omega) (by omega) (by rw [e, z])
      omega
    · rw [upd_ne e1] at e
      refine ⟨(h.1 v).mpr ⟨i, by omega, e⟩, fun z => ?_⟩
      have := h.2 i 0 (by omega) (by omega) (by rw [e, z])
      omega
  · by_cases e1 : i = 0
    · by_cases e2 : j = 0
      · omega
      · subst e1; rw [upd_at, upd_ne e2] at e
        have := h.2 n j (by omega) (by omega) e
        omega
    · by_cases e2 : j = 0
      · subst e2; rw [upd_at, upd_ne e1] at e
        have := h.2 i n (by omega) (by omega) e
        omega
      · rw [upd_ne e1, upd_ne e2] at e; exact h.2 i j (by omega) (by omega) e
theorem zup_va {I : zI} {a j : Nat} {f : Nat → Int32} {x : Int32} : zup (va_up I a f) a j x = va_up I a (upd f j x) := by
  funext b
  by_cases h : b = a
  · subst h; simp [zup, va_up]
  · simp [zup, va_up, h]
section ZHeap
variable {l : Launch} {Xi : zXi} {d : Nat} {I : zI} {g : zG}
theorem k_X3_push (hl : l.stackTraces = false) (hd : 1 ≤ d) {b n : Nat} {x : Int32} {S : Int32 → Prop} (hb : zK g b 3 zLt_Heap) (hn : I b 1 = nI n) (hn3 : n < 320) (hh : hpH (I (b + 1)) n S) (hx : ¬ S x) : zEv l Xi mX3_push d [.ref b, .int x] I g (fun I' => ∃ f, I' = va_up (zup I b 1 (nI (n + 1))) (b + 1) f ∧ hpH f (n + 1) (fun v => S v ∨ v = x)) := by
  refine zC_of hl rfl rfl rfl (Nat.le_of_ble_eq_true rfl) (zav_r hb.1.1 (zav_i zav_0)) ?_
  have loop : ∀ m h, h < m → ∀ f, h ≤ n → puI f (n + 1) h x → hpS (upd f h x) (n + 1) (fun v => S v ∨ v = x) → zJ l Xi mX3_push d 0 0 26 [some (.ref b), some (.int x), some (.int (nI h))] [] (va_up (zup I b 1 (nI (n + 1))) (b + 1) f, g) (fun r' h' => r' = .inl none ∧ ∃ I', h' = (I', g) ∧ ∃ f, I' = va_up (zup I b 1 (nI (n + 1))) (b + 1) f ∧ hpH f (n + 1) (fun v => S v ∨ v = x)) := by
    intro m
    induction m with
    | zero => intro h hm; omega
    | succ m ih =>
      intro h hm f hhn hpu hps
      refine zJ_iload_n dX3_push_26 rfl ?_
      refine zJ_if_le 69 dX3_push_27 (by decide) (fun c27 => ?_) (fun c27 => ?_)
      · skip
        refine zJ_aload_n dX3_push_69 rfl ?_
        refine zP_getr lf_X3_11 hb.1 rfl (zK_rf hb 0 0 1 320 rfl) dX3_push_70 ?_
        refine zJ_iload_n dX3_push_73 rfl ?_
        refine zJ_iload_n dX3_push_74 rfl ?_
        refine zP_iast (zK_ar hb 0 0 1 320 rfl) (by first | assumption | with_reducible exact vp_in_nI (by omega) (by omega) | (simp (disch := omega) only [nI_add, pk_mul, pk_sub, pk_div, pk_rem, nI_clamp]; with_reducible exact vp_in_nI (by omega) (by omega))) dX3_push_75 ?_
        refine zJ_vret rfl dX3_push_76 ?_
        have h0 : h = 0 := by
          rcases Nat.eq_zero_or_pos h with e | e
          · exact e
          · exact absurd c27 (nI_nle e (by omega))
        refine ⟨rfl, _, rfl, upd f h x, ?_, puI_end (Or.inl h0) hpu, hps⟩
        rw [nI_clamp (by omega), zup_va]
      · skip
        have h0 : 0 < h := by rcases Nat.eq_zero_or_pos h with e | e; exact absurd (by rw [e]; decide) c27; exact e
        refine zJ_aload_n dX3_push_30 rfl ?_
        refine zP_getr lf_X3_11 hb.1 rfl (zK_rf hb 0 0 1 320 rfl) dX3_push_31 ?_
        refine zJ_iload_n dX3_push_34 rfl ?_
        refine zJ_iconst (v := nI 1) dX3_push_35 rfl ?_
        refine zJ_isub dX3_push_36 ?_
        refine zJ_iconst (v := nI 2) dX3_push_37 rfl ?_
        refine zJ_idiv dX3_push_38 (by decide) ?_
        refine zP_iald (zK_ar hb 0 0 1 320 rfl) (by first | assumption | with_reducible exact vp_in_nI (by omega) (by omega) | (simp (disch := omega) only [nI_add, pk_mul, pk_sub, pk_div, pk_rem, nI_clamp]; with_reducible exact vp_in_nI (by omega) (by omega))) dX3_push_39 ?_
        rw [show nI h - nI 1 = nI (h - 1) from pk_sub h0, show nI (h - 1) / nI 2 = nI ((h - 1) / 2) from pk_div (by omega) (by omega) (by omega), nI_clamp (by omega), va_up_same]
        refine zJ_iload_n dX3_push_40 rfl ?_
        refine zJ_icmp_le 69 dX3_push_41 (by decide) (fun c41 => ?_) (fun c41 => ?_)
        · skip
          refine zJ_aload_n dX3_push_69 rfl ?_
          refine zP_getr lf_X3_11 hb.1 rfl (zK_rf hb 0 0 1 320 rfl) dX3_push_70 ?_
          refine zJ_iload_n dX3_push_73 rfl ?_
          refine zJ_iload_n dX3_push_74 rfl ?_
          refine zP_iast (zK_ar hb 0 0 1 320 rfl) (by first | assumption | with_reducible exact vp_in_nI (by omega) (by omega) | (simp (disch := omega) only [nI_add, pk_mul, pk_sub, pk_div, pk_rem, nI_clamp]; with_reducible exact vp_in_nI (by omega) (by omega))) dX3_push_75 ?_
          refine zJ_vret rfl dX3_push_76 ?_
          have hle : hT f ((h - 1) / 2) ≤ x.toInt := Int32.le_iff_toInt_le.mp c41
          refine ⟨rfl, _, rfl, upd f h x, ?_, puI_end (Or.inr hle) hpu, hps⟩
          rw [nI_clamp (by omega), zup_va]
        · skip
          refine zJ_aload_n dX3_push_44 rfl ?_
          refine zP_getr lf_X3_11 hb.1 rfl (zK_rf hb 0 0 1 320 rfl) dX3_push_45 ?_
          refine zJ_iload_n dX3_push_48 rfl ?_
          refine zJ_aload_n dX3_push_49 rfl ?_
          refine zP_getr lf_X3_11 hb.1 rfl (zK_rf hb 0 0 1 320 rfl) dX3_push_50 ?_
          refine zJ_iload_n dX3_push_53 rfl ?_
          refine zJ_iconst (v := nI 1) dX3_push_54 rfl ?_
          refine zJ_isub dX3_push_55 ?_
          refine zJ_iconst (v := nI 2) dX3_push_56 rfl ?_
          refine zJ_idiv dX3_push_57 (by decide) ?_
          refine zP_iald (zK_ar hb 0 0 1 320 rfl) (by first | assumption | with_reducible exact vp_in_nI (by omega) (by omega) | (simp (disch := omega) only [nI_add, pk_mul, pk_sub, pk_div, pk_rem, nI_clamp]; with_reducible exact vp_in_nI (by omega) (by omega))) dX3_push_58 ?_
          refine zP_iast (zK_ar hb 0 0 1 320 rfl) (by first | assumption | with_reducible exact vp_in_nI (by omega) (by omega) | (simp (disch := omega) only [nI_add, pk_mul, pk_sub, pk_div, pk_rem, nI_clamp]; with_reducible exact vp_in_nI (by omega) (by omega))) dX3_push_59 ?_
          refine zJ_iload_n dX3_push_60 rfl ?_
          refine zJ_iconst (v := nI 1) dX3_push_61 rfl ?_
          refine zJ_isub dX3_push_62 ?_
          refine zJ_iconst (v := nI 2) dX3_push_63 rfl ?_
          refine zJ_idiv dX3_push_64 (by decide) ?_
          refine zJ_istore_m 2 dX3_push_65 rfl (Nat.le_of_ble_eq_true rfl) (by decide) ?_
          refine zJ_goto 26 dX3_push_66 (by decide) ?_
          have hlt : x.toInt < hT f ((h - 1) / 2) := by
            have := Int32.lt_iff_toInt_lt.mp (Int32.not_le.mp c41)
            exact this
          refine zJ_eq ?_ rfl ?_ (ih ((h - 1) / 2) (by omega) (upd f h (f ((h - 1) / 2))) (by omega) (puI_up h0 (by omega) hlt hpu) (hpS_swap (by omega) (by omega) (by omega) hps))
          · simp (disch := omega) only [pk_sub, pk_div]
            rfl
          · simp (disch := omega) only [pk_sub, pk_div, nI_clamp]
            rw [zup_va, va_up_same]
  refine zJ_aload_n dX3_push_0 rfl ?_
  refine zP_geti lf_X3_15 hb.1 rfl dX3_push_1 ?_
  refine zJ_sipush (v := nI 320) dX3_push_4 rfl ?_
  refine zJ_icmp_lt 11 dX3_push_7 (by decide) (fun _ => ?_) (fun c7 => absurd (by rw [hn]; exact nI_lt (by omega) (by omega)) c7)
  refine zJ_aload_n dX3_push_11 rfl ?_
  refine zP_geti lf_X3_15 hb.1 rfl dX3_push_12 ?_
  refine zJ_istore_m 2 dX3_push_15 rfl (Nat.le_of_ble_eq_true rfl) (by decide) ?_
  refine zJ_aload_n dX3_push_16 rfl ?_
  refine zJ_dup dX3_push_17 rfl ?_
  refine zP_geti lf_X3_15 hb.1 rfl dX3_push_18 ?_
  refine zJ_iconst (v := nI 1) dX3_push_21 rfl ?_
  refine zJ_iadd dX3_push_22 ?_
  refine zP_puti lf_X3_15 hb.1 rfl dX3_push_23 ?_
  refine zJ_eq ?_ rfl ?_ (loop (n + 1) n (by omega) (I (b + 1)) (Nat.le_refl n) (puI_0 hh.1) (hpS_push hh.2 hx))
  · rw [hn]; rfl
  · rw [hn, nI_add]
    refine congrArg (fun z => (z, g)) (funext fun c => ?_)
    by_cases e : c = b + 1
    · subst e; simp [va_up, zup]
    · simp [va_up, e]
theorem k_X3_pop (hl : l.stackTraces = false) (hd : 1 ≤ d) {b n : Nat} {S : Int32 → Prop} (hb : zK g b 3 zLt_Heap) (hn : I b 1 = nI (n + 1)) (hn3 : n < 320) (hh : hpH (I (b + 1)) (n + 1) S) : zEi l Xi mX3_pop d [.ref b] I g (fun x I' => S x ∧ (∀ v, S v → x.toInt ≤ v.toInt) ∧ ∃ f, I' = va_up (zup I b 1 (nI n)) (b + 1) f ∧ hpH f n (fun v => S v ∧ v ≠ x)) := by
  refine zC_of hl rfl rfl rfl (Nat.le_of_ble_eq_true rfl) (zav_r hb.1.1 zav_0) ?_
  obtain ⟨x0, hx0⟩ : ∃ x, x = I (b + 1) 0 := ⟨_, rfl⟩
  obtain ⟨x1, hx1⟩ : ∃ x, x = I (b + 1) n := ⟨_, rfl⟩
  have hS0 : S x0 := (hh.2.1 x0).mpr ⟨0, by omega, hx0.symm⟩
  have hmin : ∀ v, S v → x0.toInt ≤ v.toInt := fun v hv => by
    obtain ⟨i, hi, e⟩ := (hh.2.1 v).mp hv
    rw [← e, hx0]
    exact hpO_min hh.1 i hi
  have hsz : ∀ f, va_up (zup I b 1 (nI n)) (b + 1) f b 1 = nI n := fun f => by
    rw [va_up_row (by omega), zup_same, upd_at]
  have fin : ∀ h f, h < n ∨ h = 0 → hpO (upd f h x1) n → hpS (upd f h x1) n (fun v => S v ∧ v ≠ x0) → ∀ o4, zJ l Xi mX3_pop d 0 0 123 [some (.ref b), some (.int x0), some (.int x1), some (.int (nI h)), o4] [] (va_up (zup I b 1 (nI n)) (b + 1) f, g) (fun r' h' => ∃ x I', r' = .inl (some (.int x)) ∧ h' = (I', g) ∧ S x ∧ (∀ v, S v → x.toInt ≤ v.toInt) ∧ ∃ f, I' = va_up (zup I b 1 (nI n)) (b + 1) f ∧ hpH f n (fun v => S v ∧ v ≠ x)) := by
    intro h f hh0 ho hs o4
    refine zJ_aload_n dX3_pop_123 rfl ?_
    refine zP_getr lf_X3_11 hb.1 rfl (zK_rf hb 0 0 1 320 rfl) dX3_pop_124 ?_
    refine zJ_iload_n dX3_pop_127 rfl ?_
    refine zJ_iload_n dX3_pop_128 rfl ?_
    refine zP_iast (zK_ar hb 0 0 1 320 rfl) (by first | assumption | with_reducible exact vp_in_nI (by omega) (by omega) | (simp (disch := omega) only [nI_add, pk_mul, pk_sub, pk_div, pk_rem, nI_clamp]; with_reducible exact vp_in_nI (by omega) (by omega))) dX3_pop_129 ?_
    refine zJ_iload_n dX3_pop_130 rfl ?_
    refine zJ_iret rfl dX3_pop_131 ?_
    refine ⟨x0, _, rfl, rfl, hS0, hmin, upd f h x1, ?_, ho, hs⟩
    rw [nI_clamp (by omega), zup_va]
  have loop : ∀ m h, n ≤ h + m → ∀ f, (h < n ∨ h = 0) → poI f n h x1 → hpS (upd f h x1) n (fun v => S v ∧ v ≠ x0) → zJ l Xi mX3_pop d 0 0 41 [some (.ref b), some (.int x0), some (.int x1), some (.int (nI h)), some (.int (nI (2 * h + 1)))] [] (va_up (zup I b 1 (nI n)) (b + 1) f, g) (fun r' h' => ∃ x I', r' = .inl (some (.int x)) ∧ h' = (I', g) ∧ S x ∧ (∀ v, S v → x.toInt ≤ v.toInt) ∧ ∃ f, I' = va_up (zup I b 1 (nI n)) (b + 1) f ∧ hpH f n (fun v => S v ∧ v ≠ x)) := by
    intro m
    induction m with
    | zero =>
      intro h hm f hh0 hpo hps
      refine zJ_iload dX3_pop_41 rfl ?_
      refine zJ_aload_n dX3_pop_43 rfl ?_
      refine zP_geti lf_X3_15 hb.1 rfl dX3_pop_44 ?_
      refine zJ_icmp_ge 123 dX3_pop_47 (by decide) (fun _ => ?_) (fun c47 => absurd (by rw [hsz]; exact nI_le (by omega) (by omega)) c47)
      exact fin h f hh0 (poI_end (fun j h1 h2 h3 => by omega) hpo) hps _
    | succ m ih =>
      intro h hm f hh0 hpo hps
      have h83 : ∀ c, 0 < c → c < n → (c - 1) / 2 = h → (∀ j, 0 < j → j < n → (j - 1) / 2 = h → hT f c ≤ hT f j) → zJ l Xi mX3_pop d 0 0 83 [some (.ref b), some (.int x0), some (.int x1), some (.int (nI h)), some (.int (nI c))] [] (va_up (zup I b 1 (nI n)) (b + 1) f, g) (fun r' h' => ∃ x I', r' = .inl (some (.int x)) ∧ h' = (I', g) ∧ S x ∧ (∀ v, S v → x.toInt ≤ v.toInt) ∧ ∃ f, I' = va_up (zup I b 1 (nI n)) (b + 1) f ∧ hpH f n (fun v => S v ∧ v ≠ x)) := by
        intro c hc0 hcn hcp hcm
        refine zJ_aload_n dX3_pop_83 rfl ?_
        refine zP_getr lf_X3_11 hb.1 rfl (zK_rf hb 0 0 1 320 rfl) dX3_pop_84 ?_
        refine zJ_iload dX3_pop_87 rfl ?_
        refine zP_iald (zK_ar hb 0 0 1 320 rfl) (by first | assumption | with_reducible exact vp_in_nI (by omega) (by omega) | (simp (disch := omega) only [nI_add, pk_mul, pk_sub, pk_div, pk_rem, nI_clamp]; with_reducible exact vp_in_nI (by omega) (by omega))) dX3_pop_89 ?_
        rw [nI_clamp (by omega), va_up_same]
        refine zJ_iload_n dX3_pop_90 rfl ?_
        refine zJ_icmp_lt 97 dX3_pop_91 (by decide) (fun c91 => ?_) (fun c91 => ?_)
        · skip
          refine zJ_aload_n dX3_pop_97 rfl ?_
          refine zP_getr lf_X3_11 hb.1 rfl (zK_rf hb 0 0 1 320 rfl) dX3_pop_98 ?_
          refine zJ_iload_n dX3_pop_101 rfl ?_
          refine zJ_aload_n dX3_pop_102 rfl ?_
          refine zP_getr lf_X3_11 hb.1 rfl (zK_rf hb 0 0 1 320 rfl) dX3_pop_103 ?_
          refine zJ_iload dX3_pop_106 rfl ?_
          refine zP_iald (zK_ar hb 0 0 1 320 rfl) (by first | assumption | with_reducible exact vp_in_nI (by omega) (by omega) | (simp (disch := omega) only [nI_add, pk_mul, pk_sub, pk_div, pk_rem, nI_clamp]; with_reducible exact vp_in_nI (by omega) (by omega))) dX3_pop_108 ?_
          refine zP_iast (zK_ar hb 0 0 1 320 rfl) (by first | assumption | with_reducible exact vp_in_nI (by omega) (by omega) | (simp (disch := omega) only [nI_add, pk_mul, pk_sub, pk_div, pk_rem, nI_clamp]; with_reducible exact vp_in_nI (by omega) (by omega))) dX3_pop_109 ?_
          refine zJ_iload dX3_pop_110 rfl ?_
          refine zJ_istore_m 3 dX3_pop_112 rfl (Nat.le_of_ble_eq_true rfl) (by decide) ?_
          refine zJ_iconst (v := nI 2) dX3_pop_113 rfl ?_
          refine zJ_iload_n dX3_pop_114 rfl ?_
          refine zJ_imul dX3_pop_115 ?_
          refine zJ_iconst (v := nI 1) dX3_pop_116 rfl ?_
          refine zJ_iadd dX3_pop_117 ?_
          refine zJ_istore dX3_pop_118 (Nat.le_of_ble_eq_true rfl) (by decide) ?_
          refine zJ_goto 41 dX3_pop_120 (by decide) ?_
          have hlt : hT f c < x1.toInt := Int32.lt_iff_toInt_lt.mp c91
          refine zJ_eq ?_ rfl ?_ (ih c (by omega) (upd f h (f c)) (Or.inl hcn) (poI_down hc0 hcn hcp hlt hcm hpo) (hpS_swap (by omega) hcn (by omega) hps))
          · simp only [pk_mul, nI_add]; rfl
          · rw [nI_clamp (by omega), nI_clamp (by omega), zup_va, va_up_same]
        · skip
          refine zJ_goto 123 dX3_pop_94 (by decide) ?_
          have hge : x1.toInt ≤ hT f c := Int32.le_iff_toInt_le.mp (Int32.not_lt.mp c91)
          exact fin h f hh0 (poI_end (fun j h1 h2 h3 => by have := hcm j h1 h2 h3; omega) hpo) hps _
      refine zJ_iload dX3_pop_41 rfl ?_
      refine zJ_aload_n dX3_pop_43 rfl ?_
      refine zP_geti lf_X3_15 hb.1 rfl dX3_pop_44 ?_
      rw [hsz]
      refine zJ_icmp_ge 123 dX3_pop_47 (by decide) (fun c47 => ?_) (fun c47 => ?_)
      · skip
        have hc1 : n ≤ 2 * h + 1 := (nI_leI (by omega) (by omega)).mp c47
        exact fin h f hh0 (poI_end (fun j h1 h2 h3 => by omega) hpo) hps _
      · skip
        refine zJ_iload dX3_pop_50 rfl ?_
        refine zJ_iconst (v := nI 1) dX3_pop_52 rfl ?_
        refine zJ_iadd dX3_pop_53 ?_
        refine zJ_aload_n dX3_pop_54 rfl ?_
        refine zP_geti lf_X3_15 hb.1 rfl dX3_pop_55 ?_
        rw [hsz, nI_add]
        refine zJ_icmp_ge 83 dX3_pop_58 (by decide) (fun c58 => ?_) (fun c58 => ?_)
        · skip
          have hc1 : 2 * h + 1 < n := by
            rcases Nat.lt_or_ge (2 * h + 1) n with q | q
            · exact q
            · exact absurd (nI_le q (by omega)) c47
          have hc2 : n ≤ 2 * h + 1 + 1 := (nI_leI (by omega) (by omega)).mp c58
          exact h83 (2 * h + 1) (by omega) hc1 (by omega) (fun j h1 h2 h3 => by rw [show j = 2 * h + 1 by omega]; exact Int.le_refl _)
        · skip
          have hc1 : 2 * h + 1 < n := by rcases Nat.lt_or_ge (2 * h + 1) n with q | q; exact q; exact absurd (nI_le q (by omega)) c47
          have hc2 : 2 * h + 1 + 1 < n := by rcases Nat.lt_or_ge (2 * h + 1 + 1) n with q | q; exact q; exact absurd (nI_le q (by omega)) c58
          refine zJ_aload_n dX3_pop_61 rfl ?_
          refine zP_getr lf_X3_11 hb.1 rfl (zK_rf hb 0 0 1 320 rfl) dX3_pop_62 ?_
          refine zJ_iload dX3_pop_65 rfl ?_
          refine zJ_iconst (v := nI 1) dX3_pop_67 rfl ?_
          refine zJ_iadd dX3_pop_68 ?_
          refine zP_iald (zK_ar hb 0 0 1 320 rfl) (by first | assumption | with_reducible exact vp_in_nI (by omega) (by omega) | (simp (disch := omega) only [nI_add, pk_mul, pk_sub, pk_div, pk_rem, nI_clamp]; with_reducible exact vp_in_nI (by omega) (by omega))) dX3_pop_69 ?_
          refine zJ_aload_n dX3_pop_70 rfl ?_
          refine zP_getr lf_X3_11 hb.1 rfl (zK_rf hb 0 0 1 320 rfl) dX3_pop_71 ?_
          refine zJ_iload dX3_pop_74 rfl ?_
          refine zP_iald (zK_ar hb 0 0 1 320 rfl) (by first | assumption | with_reducible exact vp_in_nI (by omega) (by omega) | (simp (disch := omega) only [nI_add, pk_mul, pk_sub, pk_div, pk_rem, nI_clamp]; with_reducible exact vp_in_nI (by omega) (by omega))) dX3_pop_76 ?_
          simp (disch := omega) only [nI_add, nI_clamp, va_up_same]
          refine zJ_icmp_ge 83 dX3_pop_77 (by decide) (fun c77 => ?_) (fun c77 => ?_)
          · skip
            have hge : hT f (2 * h + 1) ≤ hT f (2 * h + 1 + 1) := Int32.le_iff_toInt_le.mp c77
            exact h83 (2 * h + 1) (by omega) hc1 (by omega) (fun j h1 h2 h3 => by
              rcases (show j = 2 * h + 1 ∨ j = 2 * h + 1 + 1 by omega) with e | e
              · rw [e]; exact Int.le_refl _
              · rw [e]; exact hge)
          · skip
            refine zJ_iinc1 dX3_pop_80 rfl (by decide) ?_
            have hlt : hT f (2 * h + 1 + 1) < hT f (2 * h + 1) := Int32.lt_iff_toInt_lt.mp (Int32.not_le.mp c77)
            exact h83 (2 * h + 1 + 1) (by omega) hc2 (by omega) (fun j h1 h2 h3 => by
              rcases (show j = 2 * h + 1 ∨ j = 2 * h + 1 + 1 by omega) with e | e
              · rw [e]; exact Int.le_of_lt hlt
              · rw [e]; exact Int.le_refl _)
  refine zJ_aload_n dX3_pop_0 rfl ?_
  refine zP_geti lf_X3_15 hb.1 rfl dX3_pop_1 ?_
  refine zJ_if_ne 9 dX3_pop_4 (by decide) (fun _ => ?_) (fun c4 => absurd c4 (by rw [hn]; exact nI_ne0 (by omega) (by omega)))
  refine zJ_aload_n dX3_pop_9 rfl ?_
  refine zP_getr lf_X3_11 hb.1 rfl (zK_rf hb 0 0 1 320 rfl) dX3_pop_10 ?_
  refine zJ_iconst (v := nI 0) dX3_pop_13 rfl ?_
  refine zP_iald (zK_ar hb 0 0 1 320 rfl) (by first | assumption | with_reducible exact vp_in_nI (by omega) (by omega) | (simp (disch := omega) only [nI_add, pk_mul, pk_sub, pk_div, pk_rem, nI_clamp]; with_reducible exact vp_in_nI (by omega) (by omega))) dX3_pop_14 ?_
  refine zJ_istore_m 1 dX3_pop_15 rfl (Nat.le_of_ble_eq_true rfl) (by decide) ?_
  rw [show (nI 0).toNatClampNeg = 0 from rfl, ← hx0]
  refine zJ_aload_n dX3_pop_16 rfl ?_
  refine zJ_dup dX3_pop_17 rfl ?_
  refine zP_geti lf_X3_15 hb.1 rfl dX3_pop_18 ?_
  refine zJ_iconst (v := nI 1) dX3_pop_21 rfl ?_
  refine zJ_isub dX3_pop_22 ?_
  refine zP_puti lf_X3_15 hb.1 rfl dX3_pop_23 ?_
  rw [hn, pk_sub (show 1 ≤ n + 1 by omega), Nat.add_sub_cancel]
  refine zJ_aload_n dX3_pop_26 rfl ?_
  refine zP_getr lf_X3_11 hb.1 rfl (zK_rf hb 0 0 1 320 rfl) dX3_pop_27 ?_
  refine zJ_aload_n dX3_pop_30 rfl ?_
  refine zP_geti lf_X3_15 hb.1 rfl dX3_pop_31 ?_
  rw [zup_same, upd_at]
  refine zP_iald (zK_ar hb 0 0 1 320 rfl) (by first | assumption | with_reducible exact vp_in_nI (by omega) (by omega) | (simp (disch := omega) only [nI_add, pk_mul, pk_sub, pk_div, pk_rem, nI_clamp]; with_reducible exact vp_in_nI (by omega) (by omega))) dX3_pop_34 ?_
  rw [nI_clamp (by omega), zup_row (a := b) (b := b + 1) (by omega), ← hx1]
  refine zJ_istore_m 2 dX3_pop_35 rfl (Nat.le_of_ble_eq_true rfl) (by decide) ?_
  refine zJ_iconst (v := nI 0) dX3_pop_36 rfl ?_
  refine zJ_istore_m 3 dX3_pop_37 rfl (Nat.le_of_ble_eq_true rfl) (by decide) ?_
  refine zJ_iconst (v := nI 1) dX3_pop_38 rfl ?_
  refine zJ_istore dX3_pop_39 (Nat.le_of_ble_eq_true rfl) (by decide) ?_
  refine zJ_eq rfl rfl ?_ (loop n 0 (by omega) (I (b + 1)) (Or.inr rfl) ?_ ?_)
  · refine congrArg (fun z => (z, g)) (funext fun c => ?_)
    by_cases e : c = b + 1
    · subst e; simp [va_up, zup]
    · simp [va_up, e]
  · refine ⟨fun j h1 h2 h3 => ?_, fun h => absurd h (by decide)⟩
    have := hh.1 j h1 (by omega)
    simp only [hT] at this ⊢
    rw [upd_ne (by omega), upd_ne (by omega)]
    exact this
  · rw [hx1, hx0]
    exact hpS_pop hh.2
end ZHeap
