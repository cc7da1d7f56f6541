/-! ===== the reference: a work's steps read ===== -/
section ZRefAQ
variable {l : Launch} {Xi : zXi} {d : Nat} {I : zI} {g : zG}
/-- how many of the first tokens have a row -/
def rn (c : List tok) (x : Nat) : Nat := cB (fun j => decide ((tk c j).1 ≠ 7)) x
def rq1 (J : zI) (k b : Nat) (c : List tok) (i : Nat) : Prop := ((tk c i).1 ≤ 5 → stR2 J (452 + 1 + (k + rn c i)) (tk c i) ∧ J (452 + 1 + (k + rn c i)) 3 = nI (k + rn c i + 1)) ∧ ((tk c i).1 = 6 → b ≤ (tk c i).2.2 ∧ (tk c i).2.2 < b + c.length ∧ J (452 + 1 + (k + rn c i)) 0 = nI 6 ∧ J (452 + 1 + (k + rn c i)) 1 = nI (tk c i).2.1 ∧ J (452 + 1 + (k + rn c i)) 3 = nI (k + rn c ((tk c i).2.2 - b)))
def rq (J : zI) (k b : Nat) (c : List tok) : Prop := ∀ i, i < c.length → rq1 J k b c i
theorem rn_le {c : List tok} {x : Nat} : rn c x ≤ x := cB_le
theorem rn_mono {c : List tok} : ∀ {x y : Nat}, x ≤ y → rn c x ≤ rn c y := by
  intro x y h
  induction y with
  | zero => rw [show x = 0 by omega]; exact Nat.le_refl _
  | succ y ih =>
    by_cases z : x = y + 1
    · rw [z]; exact Nat.le_refl _
    · exact Nat.le_trans (ih (by omega)) (Nat.le_add_right _ _)
theorem rn_l {c c' : List tok} {x : Nat} (h : x ≤ c.length) : rn (c ++ c') x = rn c x := cB_congr (fun j hj => by rw [tk_l (by omega)])
theorem rn_r {c c' : List tok} : ∀ {y : Nat}, rn (c ++ c') (c.length + y) = rn c c.length + rn c' y
  | 0 => rn_l (Nat.le_refl _)
  | y + 1 => by
    have ih := rn_r (c := c) (c' := c') (y := y)
    show rn (c ++ c') (c.length + y) + (if decide ((tk (c ++ c') (c.length + y)).1 ≠ 7) = true then 1 else 0) = rn c c.length + (rn c' y + (if decide ((tk c' y).1 ≠ 7) = true then 1 else 0))
    rw [ih, tk_r (by omega), Nat.add_sub_cancel_left, Nat.add_assoc]
theorem rn_st {c : List tok} {i : Nat} (h : (tk c i).1 ≠ 7) : rn c (i + 1) = rn c i + 1 := by
  show rn c i + (if decide ((tk c i).1 ≠ 7) = true then 1 else 0) = _
  rw [decide_eq_true h]; rfl
theorem stR2_of {J : zI} {c : Nat} {t : tok} (h : stR2 I c t) (e : J c = I c) : stR2 J c t := by unfold stR2 at *; rw [e]; exact h
theorem rq_of {J : zI} {k b : Nat} {c : List tok} (h : rq I k b c) (e : ∀ a, 453 + k ≤ a → a < 453 + k + rn c c.length → J a = I a) : rq J k b c := fun i hi => by
  obtain ⟨h1, h2⟩ := h i hi
  refine ⟨fun z => ?_, fun z => ?_⟩
  · have h9 := rn_st (c := c) (i := i) (by omega)
    have h8 := rn_mono (c := c) (show i + 1 ≤ c.length from hi)
    have ee := e (452 + 1 + (k + rn c i)) (by omega) (by omega)
    obtain ⟨a1, a2⟩ := h1 z
    exact ⟨stR2_of a1 ee, by rw [ee]; exact a2⟩
  · have h9 := rn_st (c := c) (i := i) (by omega)
    have h8 := rn_mono (c := c) (show i + 1 ≤ c.length from hi)
    have ee := e (452 + 1 + (k + rn c i)) (by omega) (by omega)
    rw [ee]; exact h2 z
theorem rq_app {k b : Nat} {c c' : List tok} (h : rq I k b c) (h2 : rq I (k + rn c c.length) (b + c.length) c') : rq I k b (c ++ c') := fun i hi => by
  rw [List.length_append] at hi
  by_cases z : i < c.length
  · obtain ⟨a1, a2⟩ := h i z
    unfold rq1
    rw [tk_l z, rn_l (by omega)]
    refine ⟨a1, fun y => ?_⟩
    obtain ⟨q1, q2, q3, q4, q5⟩ := a2 y
    exact ⟨q1, by rw [List.length_append]; omega, q3, q4, by rw [rn_l (by omega)]; exact q5⟩
  · obtain ⟨a1, a2⟩ := h2 (i - c.length) (by omega)
    have e : rn (c ++ c') i = rn c c.length + rn c' (i - c.length) := by
      have := rn_r (c := c) (c' := c') (y := i - c.length)
      rw [show c.length + (i - c.length) = i by omega] at this; exact this
    unfold rq1
    rw [tk_r (by omega), e, ← Nat.add_assoc k]
    refine ⟨a1, fun y => ?_⟩
    obtain ⟨q1, q2, q3, q4, q5⟩ := a2 y
    refine ⟨by omega, by rw [List.length_append]; omega, q3, q4, ?_⟩
    have e2 : rn (c ++ c') ((tk c' (i - c.length)).2.2 - b) = rn c c.length + rn c' ((tk c' (i - c.length)).2.2 - (b + c.length)) := by
      have := rn_r (c := c) (c' := c') (y := (tk c' (i - c.length)).2.2 - (b + c.length))
      rw [show c.length + ((tk c' (i - c.length)).2.2 - (b + c.length)) = (tk c' (i - c.length)).2.2 - b by omega] at this; exact this
    rw [e2, ← Nat.add_assoc k]; exact q5
def fS (k : Nat) (I J : zI) : Prop := (∀ a, a ≠ 74 → (a < 453 + k ∨ 532 < a) → J a = I a) ∧ ∀ j, j ≠ 4 → j ≠ 5 → j ≠ 6 → j ≠ 8 → j ≠ 29 → J 74 j = I 74 j
theorem fS_rfl {k : Nat} : fS k I I := ⟨fun _ _ _ => rfl, fun _ _ _ _ _ _ => rfl⟩
theorem fS_trans {k : Nat} {J K : zI} (h : fS k I J) (h2 : fS k J K) : fS k I K := ⟨fun a q1 q2 => (h2.1 a q1 q2).trans (h.1 a q1 q2), fun j q1 q2 q3 q4 q5 => (h2.2 j q1 q2 q3 q4 q5).trans (h.2 j q1 q2 q3 q4 q5)⟩
theorem fS_up {k k' : Nat} {J : zI} (h : fS k' I J) (hk : k ≤ k') : fS k I J := ⟨fun a q1 q2 => h.1 a q1 (by omega), h.2⟩
theorem fS_ft {k : Nat} {J : zI} (h : ft I J) : fS k I J := ⟨fun a q1 _ => h.1 a q1, fun j q1 q2 q3 _ _ => h.2 j q1 q2 q3⟩
theorem fS_74 {k : Nat} {J : zI} {j : Nat} {x : Int32} (h : fS k I J) (hj : j = 8 ∨ j = 29) : fS k I (zup J 74 j x) := ⟨fun a q1 q2 => by rw [zup_row q1]; exact h.1 a q1 q2, fun i q1 q2 q3 q4 q5 => by rw [zup_same, upd_ne (by omega)]; exact h.2 i q1 q2 q3 q4 q5⟩
theorem fS_row {k k' : Nat} {J : zI} {j : Nat} {x : Int32} (h : fS k I J) (hk : k ≤ k') (hk2 : k' < 80) : fS k I (zup J (452 + 1 + k') j x) := ⟨fun a q1 q2 => by rw [zup_row (by omega)]; exact h.1 a q1 q2, fun i q1 q2 q3 q4 q5 => by rw [zup_row (by omega)]; exact h.2 i q1 q2 q3 q4 q5⟩
/-- what the reader of steps stands on -/
def sQ (I : zI) (N C R o k : Nat) : Prop := (I 78 0 = nI C ∧ I 78 1 = nI R ∧ I 78 2 = nI N ∧ C ≤ 8 ∧ R ≤ 8 ∧ N ≤ 6) ∧ I 74 8 = nI o ∧ I 74 29 = nI k
theorem sQ_ft {J : zI} {N C R o k : Nat} (h : sQ I N C R o k) (hf : ft I J) : sQ J N C R o k := by
  unfold sQ at *
  rw [hf.1 78 (by decide), hf.2 8 (by decide) (by decide) (by decide), hf.2 29 (by decide) (by decide) (by decide)]; exact h
def cS (l : Launch) (Xi : zXi) (g : zG) (N C R f : Nat) : Prop := ∀ (o d : Nat) (I : zI) (bs : Nat → Nat) (L A b k : Nat), o ≤ 6 → (6 - o) + 8 ≤ d → L ≤ 150 → rz I bs L A none → sQ I N C R o k → 2 * k ≤ A → pW bs L N C R f 1 o b A ≠ .inl (0, 0) → zEv l Xi mX13_readsStep d [.ref 74] I g (fun J => fS k I J ∧ rP J bs L (pW bs L N C R f 1 o b A) (fun c => rq J k b c ∧ J 74 29 = nI (k + rn c c.length) ∧ J 74 8 = nI o))
theorem m_placeHere (hl : l.stackTraces = false) (hd : 4 ≤ d) (hs : zSt g) {bs : Nat → Nat} {L A N C R o k : Nat} (h : rz I bs L A none) (hq : sQ I N C R o k) : zEi l Xi mX13_placeHere d [.ref 74] I g (fun x J => ft I J ∧ rP J bs L (pbind (pNum bs L 0 C A) fun x A => pbind (pNum bs L 0 R A) fun y A => (.inr ((x, y), A) : PR (Nat × Nat))) (fun q => x = nI (q.2 * 8 + q.1) ∧ q.1 < C ∧ q.2 < R)) := by
  refine zC_of hl rfl rfl rfl (Nat.le_of_ble_eq_true rfl) (zav_r (zSt_ob hs 74 13 rfl).1 zav_0) ?_
  obtain ⟨⟨q1, q2, q3, q4, q5, q6⟩, q7, q8⟩ := hq
  refine zJ_aload_n dX13_placeHere_0 rfl ?_
  refine zJ_iconst (v := nI 0) dX13_placeHere_1 rfl ?_
  refine zJ_aload_n dX13_placeHere_2 rfl ?_
  refine zP_getr lf_X13_23 (zSt_ob hs 74 13 rfl) rfl (zSt_rf hs 74 12 78 rfl) dX13_placeHere_3 ?_
  refine zJ_iconst (v := nI 0) dX13_placeHere_6 rfl ?_
  refine zP_iald (zSt_ar hs 78 4 rfl) (by first | assumption | with_reducible exact vp_in_nI (by omega) (by omega) | (simp (disch := omega) only [nI_add, pk_mul, pk_sub, pk_div, pk_rem, nI_clamp]; with_reducible exact vp_in_nI (by omega) (by omega))) dX13_placeHere_7 ?_
  rw [nI_clamp (by omega), q1]
  refine zJ_iconst (v := nI 1) dX13_placeHere_8 rfl ?_
  refine zJ_isub dX13_placeHere_9 ?_
  refine zP_ecallVi [_, _] _ lv_X13_169 (m_number0 (lo := 0) (hi := C) (d := d - 1) hl (by omega) hs h (by omega) (by omega) rfl rfl) (zSt_ob hs 74 13 rfl) rfl (by omega) (Nat.le_of_ble_eq_true rfl) rfl dX13_placeHere_10 (fun x1 J1 h1 => ?_)
  refine zJ_istore_m 1 dX13_placeHere_13 rfl (Nat.le_of_ble_eq_true rfl) (by decide) ?_
  refine zJ_aload_n dX13_placeHere_14 rfl ?_
  refine zJ_iconst (v := nI 0) dX13_placeHere_15 rfl ?_
  refine zJ_aload_n dX13_placeHere_16 rfl ?_
  refine zP_getr lf_X13_23 (zSt_ob hs 74 13 rfl) rfl (zSt_rf hs 74 12 78 rfl) dX13_placeHere_17 ?_
  refine zJ_iconst (v := nI 1) dX13_placeHere_20 rfl ?_
  refine zP_iald (zSt_ar hs 78 4 rfl) (by first | assumption | with_reducible exact vp_in_nI (by omega) (by omega) | (simp (disch := omega) only [nI_add, pk_mul, pk_sub, pk_div, pk_rem, nI_clamp]; with_reducible exact vp_in_nI (by omega) (by omega))) dX13_placeHere_21 ?_
  rw [nI_clamp (by omega), h1.1.1 78 (by decide), q2]
  refine zJ_iconst (v := nI 1) dX13_placeHere_22 rfl ?_
  refine zJ_isub dX13_placeHere_23 ?_
  refine zP_ecallVi [_, _] _ lv_X13_169 (m_numP (lo := 0) (hi := R) (d := d - 1) hl (by omega) hs h1.2 (by omega) (by omega) rfl rfl) (zSt_ob hs 74 13 rfl) rfl (by omega) (Nat.le_of_ble_eq_true rfl) rfl dX13_placeHere_24 (fun x2 J2 h2 => ?_)
  refine zJ_istore_m 2 dX13_placeHere_27 rfl (Nat.le_of_ble_eq_true rfl) (by decide) ?_
  refine zJ_bipush (v := nI 8) dX13_placeHere_28 rfl ?_
  refine zJ_iload_n dX13_placeHere_30 rfl ?_
  refine zJ_imul dX13_placeHere_31 ?_
  refine zJ_iload_n dX13_placeHere_32 rfl ?_
  refine zJ_iadd dX13_placeHere_33 ?_
  refine zJ_iret rfl dX13_placeHere_34 ?_
  refine ⟨_, J2, rfl, rfl, ft_trans h1.1 h2.1, rP_map (α := Nat × Nat) (β := Nat × Nat) (fun q => q) h2.2 ?_ (fun q hq => ?_)⟩
  · simp only [pbind_assoc, pbind_inr]
  · obtain ⟨⟨a1, a2, a3⟩, a4, a5, a6⟩ := hq
    exact ⟨by rw [a1, a4, pk_mul, nI_add, Nat.mul_comm], a3, a6⟩
end ZRefAQ
