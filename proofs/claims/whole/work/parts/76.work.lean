/-! ===== work: its text's tokens ===== -/
section ZWorkS
abbrev tok : Type := Nat × Nat × Nat
/-- 0 round 1 lay 2 rip 3 crit 4 block 5 ease 6 again 7 nothing -/
def kdW (bs : Nat → Nat) (a w : Nat) : Nat := if wdB bs a w 9 then 0 else if wdB bs a w 17 then 1 else if wdB bs a w 18 then 2 else if wdB bs a w 8 then 3 else if wdB bs a w 19 then 4 else if wdB bs a w 15 then 5 else if wdB bs a w 16 then 6 else 7
def pPrim (bs : Nat → Nat) (L N C R k A : Nat) : PR (Nat × Nat) :=
  if k = 0 then .inr ((0, 0), A)
  else if k = 1 ∨ k = 2 then pbind (pNum bs L 0 N A) fun n A => .inr ((n, 0), A)
  else if k = 3 then pbind (pNum bs L 0 N A) fun n A => pbind (pNum bs L 0 10 A) fun c A => .inr ((n, c), A)
  else if k = 4 then pbind (pNum bs L 0 C A) fun x A => pbind (pNum bs L 0 R A) fun y A => .inr ((x, y), A)
  else pbind (pNum bs L 1 100 A) fun v A => .inr ((v, 0), A)
def pStop (bs : Nat → Nat) (L o a : Nat) : Bool := if o = 0 then decide (L ≤ a) else hitB bs L a 93
/-- 0 a row of steps, else one step -/
def pW (bs : Nat → Nat) (L N C R : Nat) : Nat → Nat → Nat → Nat → Nat → PR (List tok)
  | 0, _, _, _, _ => .inl (0, 0)
  | f + 1, m, o, b, A =>
    if m = 0 then
      (if pStop bs L o (sk bs L A) then .inr ([], sk bs L A) else pbind (pW bs L N C R f 1 o b A) fun c A => pbind (pW bs L N C R f 0 o (b + c.length) A) fun c' A => .inr (c ++ c', A))
    else if kdW bs (sk bs L A) (woE bs L A) = 7 then .inl (1, sk bs L A)
    else if kdW bs (sk bs L A) (woE bs L A) = 6 then
      (if 6 ≤ o then .inl (3, sk bs L A) else pbind (pNum bs L 0 41 (woE bs L A)) fun n A => pbind (pSign bs L 91 A) fun _ A => pbind (pW bs L N C R f 0 (o + 1) (b + 1) A) fun c A => pbind (pSign bs L 93 A) fun _ A => pbind (pSign bs L 59 A) fun _ A => .inr ([(6, n, b + 1 + c.length)] ++ c ++ [(7, b, 0)], A))
    else pbind (pPrim bs L N C R (kdW bs (sk bs L A) (woE bs L A)) (woE bs L A)) fun q A1 => pbind (pSign bs L 59 A1) fun _ A1 => .inr ([(kdW bs (sk bs L A) (woE bs L A), q.1, q.2)], A1)
variable {bs : Nat → Nat} {L N C R : Nat}
theorem pPrim_ok {k A A' : Nat} {q : Nat × Nat} (h : pPrim bs L N C R k A = .inr (q, A')) (hA : A ≤ L) : A ≤ A' ∧ A' ≤ L := by
  unfold pPrim at h
  repeat' split at h
  · cases h; exact ⟨Nat.le_refl _, hA⟩
  · obtain ⟨x, a, e, h⟩ := pbind_ok h; cases h; have := pNum_ok e hA; omega
  · obtain ⟨x, a, e, h⟩ := pbind_ok h; have := pNum_ok e hA; obtain ⟨y, a2, e2, h⟩ := pbind_ok h; cases h; have := pNum_ok e2 this.2.1; omega
  · obtain ⟨x, a, e, h⟩ := pbind_ok h; have := pNum_ok e hA; obtain ⟨y, a2, e2, h⟩ := pbind_ok h; cases h; have := pNum_ok e2 this.2.1; omega
  · obtain ⟨x, a, e, h⟩ := pbind_ok h; cases h; have := pNum_ok e hA; omega
theorem kdW_len {a w : Nat} (h : ¬ kdW bs a w = 7) : a + 3 ≤ w ∧ kdW bs a w < 7 := by
  unfold kdW at *
  repeat' split at h
  all_goals first
    | (next z => exact absurd rfl h)
    | skip
  all_goals (next z => constructor; exact wd_len (by decide) z; simp [*])
theorem pW_ok {f m o b A A' : Nat} {c : List tok} (h : pW bs L N C R f m o b A = .inr (c, A')) (hA : A ≤ L) : A + 2 * c.length ≤ A' ∧ A' ≤ L ∧ (m ≠ 0 → A + 3 ≤ A') := by
  induction f generalizing m o b A A' c with
  | zero => cases h
  | succ f ih =>
    have hg : A ≤ sk bs L A := sp_g
    have hl : sk bs L A ≤ L := sp_l hA
    have hw : sk bs L A ≤ woE bs L A := sp_g
    have hwl : woE bs L A ≤ L := sp_l hl
    rw [pW] at h
    by_cases m0 : m = 0
    · rw [if_pos m0] at h
      split at h
      · cases h; simp only [List.length_nil]; omega
      · obtain ⟨c1, a1, e1, h⟩ := pbind_ok h
        obtain ⟨c2, a2, e2, h⟩ := pbind_ok h
        cases h
        have i1 := ih e1 hA
        have i2 := ih e2 i1.2.1
        simp only [List.length_append]
        omega
    rw [if_neg m0] at h
    split at h
    · cases h
    · next k7 =>
      have hk := kdW_len k7
      split at h
      · split at h
        · cases h
        · obtain ⟨n, a1, e1, h⟩ := pbind_ok h
          obtain ⟨u, a2, e2, h⟩ := pbind_ok h
          obtain ⟨c3, a3, e3, h⟩ := pbind_ok h
          obtain ⟨u4, a4, e4, h⟩ := pbind_ok h
          obtain ⟨u5, a5, e5, h⟩ := pbind_ok h
          cases h
          have p1 := pNum_ok e1 hwl
          have p2 := pSign_ok e2
          have p3 := ih e3 p2.2
          have p4 := pSign_ok e4
          have p5 := pSign_ok e5
          simp only [List.length_append, List.length_singleton]
          omega
      · obtain ⟨q, a1, e1, h⟩ := pbind_ok h
        obtain ⟨u, a2, e2, h⟩ := pbind_ok h
        cases h
        have p1 := pPrim_ok e1 hwl
        have p2 := pSign_ok e2
        simp only [List.length_singleton]
        omega
theorem pW_stop {f o b A A' : Nat} {c : List tok} (h : pW bs L N C R f 0 o b A = .inr (c, A')) : pStop bs L o A' = true ∧ sk bs L A' = A' := by
  induction f generalizing b A c with
  | zero => cases h
  | succ f ih =>
    rw [pW, if_pos rfl] at h
    split at h
    · next z => cases h; exact ⟨z, sk_sk⟩
    · obtain ⟨c1, a1, e1, h⟩ := pbind_ok h
      obtain ⟨c2, a2, e2, h⟩ := pbind_ok h
      cases h
      exact ih e2
theorem pPrim_ne {k A : Nat} : pPrim bs L N C R k A ≠ .inl (0, 0) := by
  unfold pPrim
  repeat' split
  · exact inr_ne
  · exact pbind_ne pNum_ne (fun _ _ _ => inr_ne)
  · exact pbind_ne pNum_ne (fun _ _ _ => pbind_ne pNum_ne (fun _ _ _ => inr_ne))
  · exact pbind_ne pNum_ne (fun _ _ _ => pbind_ne pNum_ne (fun _ _ _ => inr_ne))
  · exact pbind_ne pNum_ne (fun _ _ _ => inr_ne)
theorem pW_fuel {f m o b A : Nat} (hA : A ≤ L) (hf : 2 * (L - A) + (if m = 0 then 2 else 1) ≤ f) : pW bs L N C R f m o b A ≠ .inl (0, 0) := by
  induction f generalizing m o b A with
  | zero => split at hf <;> omega
  | succ f ih =>
    have hg : A ≤ sk bs L A := sp_g
    have hl : sk bs L A ≤ L := sp_l hA
    have hw : sk bs L A ≤ woE bs L A := sp_g
    have hwl : woE bs L A ≤ L := sp_l hl
    rw [pW]
    by_cases m0 : m = 0
    · rw [if_pos m0] at hf ⊢
      split
      · exact inr_ne
      · refine pbind_ne (ih hA (by simp; omega)) (fun c a e => ?_)
        have p := pW_ok e hA
        have := p.2.2 (by decide)
        exact pbind_ne (ih p.2.1 (by simp; omega)) (fun _ _ _ => inr_ne)
    rw [if_neg m0] at hf ⊢
    split
    · exact fun z => by cases z
    · next k7 =>
      have hk := kdW_len k7
      split
      · split
        · exact fun z => by cases z
        · refine pbind_ne pNum_ne (fun n a e => ?_)
          have p1 := pNum_ok e hwl
          refine pbind_ne pSign_ne (fun u a2 e2 => ?_)
          have p2 := pSign_ok e2
          exact pbind_ne (ih p2.2 (by simp; omega)) (fun _ _ _ => pbind_ne pSign_ne (fun _ _ _ => pbind_ne pSign_ne (fun _ _ _ => inr_ne)))
      · exact pbind_ne pPrim_ne (fun _ _ _ => pbind_ne pSign_ne (fun _ _ _ => inr_ne))
end ZWorkS
section ZWorkE
variable {l : Launch} {Xi : zXi} {d : Nat} {I : zI} {g : zG}
def tk (ts : List tok) (i : Nat) : tok := ts.getD i (0, 0, 0)
theorem tk_l {ts us : List tok} {i : Nat} (h : i < ts.length) : tk (ts ++ us) i = tk ts i := by
  unfold tk
  rw [List.getD_eq_getElem?_getD, List.getElem?_append_left h, ← List.getD_eq_getElem?_getD]
theorem tk_r {ts us : List tok} {i : Nat} (h : ts.length ≤ i) : tk (ts ++ us) i = tk us (i - ts.length) := by
  unfold tk
  rw [List.getD_eq_getElem?_getD, List.getElem?_append_right h, ← List.getD_eq_getElem?_getD]
def wk (J : zI) (ts : List tok) (o : Nat) (ops : Nat → Nat) : Prop := J 35 1 = nI ts.length ∧ ts.length ≤ 150 ∧ (∀ i, i < ts.length → J 36 i = nI (tk ts i).1 ∧ J 37 i = nI (tk ts i).2.1 ∧ J 38 i = nI (tk ts i).2.2) ∧ J 35 2 = nI o ∧ o ≤ 6 ∧ ∀ i, i < o → J 39 i = nI (ops i)
def fW (I J : zI) : Prop := ∀ a, a ≠ 1 → (a < 35 ∨ 39 < a) → J a = I a
theorem fW_rfl : fW I I := fun _ _ _ => rfl
theorem fW_trans {J K : zI} (h : fW I J) (h2 : fW J K) : fW I K := fun a p q => (h2 a p q).trans (h a p q)
theorem fW_fT {J : zI} (h : fT I J) : fW I J := fun a p _ => h a p
theorem wk_fT {J : zI} {ts : List tok} {o : Nat} {ops : Nat → Nat} (h : wk I ts o ops) (hT : fT I J) : wk J ts o ops := by
  unfold wk at *
  rw [hT 35 (by decide), hT 36 (by decide), hT 37 (by decide), hT 38 (by decide), hT 39 (by decide)]
  exact h
/-- what emit does -/
def emW (I : zI) (n : Nat) (k x y : Int32) : zI := zup (zup (zup (zup I 36 n k) 37 n x) 38 n y) 35 1 (nI (n + 1))
theorem emW_row {n a : Nat} {k x y : Int32} (h : a < 35 ∨ 38 < a) : emW I n k x y a = I a := by
  unfold emW
  rw [zup_row (by omega), zup_row (by omega), zup_row (by omega), zup_row (by omega)]
theorem emW_wk {ts : List tok} {o k f t : Nat} {ops : Nat → Nat} (h : wk I ts o ops) (hn : ts.length < 150) : wk (emW I ts.length (nI k) (nI f) (nI t)) (ts ++ [(k, f, t)]) o ops := by
  obtain ⟨h1, h2, h3, h4, h5, h6⟩ := h
  refine ⟨by unfold emW; rw [zup_same, upd_at, List.length_append]; rfl, by rw [List.length_append, List.length_singleton]; omega, fun i hi => ?_, by unfold emW; rw [zup_same, upd_ne (by decide), zup_row (by decide), zup_row (by decide), zup_row (by decide)]; exact h4, h5, fun i hi => by rw [emW_row (by omega)]; exact h6 i hi⟩
  rw [List.length_append, List.length_singleton] at hi
  unfold emW
  rw [zup_row (show 36 ≠ 35 by decide), zup_row (show 36 ≠ 38 by decide), zup_row (show 36 ≠ 37 by decide), zup_same, zup_row (show 37 ≠ 35 by decide), zup_row (show 37 ≠ 38 by decide), zup_same, zup_row (show 37 ≠ 36 by decide), zup_row (show 38 ≠ 35 by decide), zup_same, zup_row (show 38 ≠ 37 by decide), zup_row (show 38 ≠ 36 by decide)]
  by_cases z : i = ts.length
  · rw [z, upd_at, upd_at, upd_at, tk_r (Nat.le_refl _), Nat.sub_self]; exact ⟨rfl, rfl, rfl⟩
  · rw [upd_ne z, upd_ne z, upd_ne z, tk_l (by omega)]; exact h3 i (by omega)
theorem k_emitW (hl : l.stackTraces = false) (hd : 1 ≤ d) (hs : zSt g) {n : Nat} {k x y : Int32} (h : I 35 1 = nI n) (hn : n < 150) : zD l Xi mX11_emit d [.ref 35, .int k, .int x, .int y] I g none (emW I n k x y) := by
  refine zC_of hl rfl rfl rfl (Nat.le_of_ble_eq_true rfl) (zav_r (zSt_ob hs 35 11 rfl).1 (zav_i (zav_i (zav_i zav_0)))) ?_
  refine zJ_aload_n dX11_emit_0 rfl ?_
  refine zP_geti lf_X11_27 (zSt_ob hs 35 11 rfl) rfl dX11_emit_1 ?_
  refine zJ_aload_n dX11_emit_4 rfl ?_
  refine zP_getr lf_X11_9 (zSt_ob hs 35 11 rfl) rfl (zSt_rf hs 35 3 36 rfl) dX11_emit_5 ?_
  refine zP_alen (zSt_ar hs 36 150 rfl) dX11_emit_8 ?_
  rw [h]
  refine zJ_icmp_ge 52 dX11_emit_9 (by decide) (fun c9 => absurd c9 (nI_ge (by omega) (by omega))) (fun _ => ?_)
  refine zJ_aload_n dX11_emit_12 rfl ?_
  refine zP_getr lf_X11_9 (zSt_ob hs 35 11 rfl) rfl (zSt_rf hs 35 3 36 rfl) dX11_emit_13 ?_
  refine zJ_aload_n dX11_emit_16 rfl ?_
  refine zP_geti lf_X11_27 (zSt_ob hs 35 11 rfl) rfl dX11_emit_17 ?_
  rw [h]
  refine zJ_iload_n dX11_emit_20 rfl ?_
  refine zP_iast (zSt_ar hs 36 150 rfl) (by first | assumption | with_reducible exact vp_in_nI (by omega) (by omega) | (simp (disch := omega) only [nI_add, pk_mul, pk_sub, pk_div, pk_rem, nI_clamp]; with_reducible exact vp_in_nI (by omega) (by omega))) dX11_emit_21 ?_
  refine zJ_aload_n dX11_emit_22 rfl ?_
  refine zP_getr lf_X11_15 (zSt_ob hs 35 11 rfl) rfl (zSt_rf hs 35 4 37 rfl) dX11_emit_23 ?_
  refine zJ_aload_n dX11_emit_26 rfl ?_
  refine zP_geti lf_X11_27 (zSt_ob hs 35 11 rfl) rfl dX11_emit_27 ?_
  rw [zup_row (by decide), h]
  refine zJ_iload_n dX11_emit_30 rfl ?_
  refine zP_iast (zSt_ar hs 37 150 rfl) (by first | assumption | with_reducible exact vp_in_nI (by omega) (by omega) | (simp (disch := omega) only [nI_add, pk_mul, pk_sub, pk_div, pk_rem, nI_clamp]; with_reducible exact vp_in_nI (by omega) (by omega))) dX11_emit_31 ?_
  refine zJ_aload_n dX11_emit_32 rfl ?_
  refine zP_getr lf_X11_18 (zSt_ob hs 35 11 rfl) rfl (zSt_rf hs 35 5 38 rfl) dX11_emit_33 ?_
  refine zJ_aload_n dX11_emit_36 rfl ?_
  refine zP_geti lf_X11_27 (zSt_ob hs 35 11 rfl) rfl dX11_emit_37 ?_
  rw [zup_row (by decide), zup_row (by decide), h]
  refine zJ_iload_n dX11_emit_40 rfl ?_
  refine zP_iast (zSt_ar hs 38 150 rfl) (by first | assumption | with_reducible exact vp_in_nI (by omega) (by omega) | (simp (disch := omega) only [nI_add, pk_mul, pk_sub, pk_div, pk_rem, nI_clamp]; with_reducible exact vp_in_nI (by omega) (by omega))) dX11_emit_41 ?_
  refine zJ_aload_n dX11_emit_42 rfl ?_
  refine zJ_dup dX11_emit_43 rfl ?_
  refine zP_geti lf_X11_27 (zSt_ob hs 35 11 rfl) rfl dX11_emit_44 ?_
  rw [zup_row (by decide), zup_row (by decide), zup_row (by decide), h]
  refine zJ_iconst (v := nI 1) dX11_emit_47 rfl ?_
  refine zJ_iadd dX11_emit_48 ?_
  rw [nI_add]
  refine zP_puti lf_X11_27 (zSt_ob hs 35 11 rfl) rfl dX11_emit_49 ?_
  refine zJ_vret rfl dX11_emit_52 ?_
  rw [nI_clamp (by omega)]
  exact ⟨rfl, rfl⟩
theorem tk_set {ts : List tok} {i j : Nat} {t : tok} (hi : i < ts.length) : tk (ts.set i t) j = if j = i then t else tk ts j := by
  unfold tk
  rw [List.getD_eq_getElem?_getD, List.getElem?_set]
  by_cases e : i = j
  · subst e; simp [hi]
  · rw [if_neg e, if_neg (fun z => e z.symm), ← List.getD_eq_getElem?_getD]
theorem k_closeAgain (hl : l.stackTraces = false) (hd : 2 ≤ d) (hs : zSt g) {ts : List tok} {o n b : Nat} {ops : Nat → Nat} (h : wk I ts (o + 1) ops) (hn : ts.length < 150) (hb : ops o = b) (hbl : b < ts.length) (hbt : tk ts b = (6, n, 0)) : zEv l Xi mX11_closeAgain d [.ref 35] I g (fun J => fW I J ∧ J 1 = I 1 ∧ wk J (ts.set b (6, n, ts.length) ++ [(7, b, 0)]) o ops) := by
  refine zC_of hl rfl rfl rfl (Nat.le_of_ble_eq_true rfl) (zav_r (zSt_ob hs 35 11 rfl).1 zav_0) ?_
  obtain ⟨h1, h2, h3, h4, h5, h6⟩ := h
  have ho := h6 o (by omega)
  rw [hb] at ho
  have hw : wk (zup (zup I 35 2 (nI o)) 38 b (nI ts.length)) (ts.set b (6, n, ts.length)) o ops := by
    refine ⟨by rw [zup_row (by decide), zup_same, upd_ne (by decide), List.length_set]; exact h1, by rw [List.length_set]; exact h2, fun i hi => ?_, by rw [zup_row (by decide), zup_same, upd_at], by omega, fun i hi => by rw [zup_row (by decide), zup_row (by decide)]; exact h6 i (by omega)⟩
    rw [List.length_set] at hi
    rw [tk_set hbl, zup_row (show 36 ≠ 38 by decide), zup_row (show 36 ≠ 35 by decide), zup_row (show 37 ≠ 38 by decide), zup_row (show 37 ≠ 35 by decide), zup_same, zup_row (show 38 ≠ 35 by decide)]
    by_cases z : i = b
    · rw [if_pos z, z, upd_at]
      have := h3 b hbl
      rw [hbt] at this
      exact ⟨this.1, this.2.1, rfl⟩
    · rw [if_neg z, upd_ne z]; exact h3 i hi
  refine zJ_aload_n dX11_closeAgain_0 rfl ?_
  refine zJ_dup dX11_closeAgain_1 rfl ?_
  refine zP_geti lf_X11_31 (zSt_ob hs 35 11 rfl) rfl dX11_closeAgain_2 ?_
  rw [h4]
  refine zJ_iconst (v := nI 1) dX11_closeAgain_5 rfl ?_
  refine zJ_isub dX11_closeAgain_6 ?_
  rw [pk_sub (by omega), Nat.add_sub_cancel]
  refine zP_puti lf_X11_31 (zSt_ob hs 35 11 rfl) rfl dX11_closeAgain_7 ?_
  refine zJ_aload_n dX11_closeAgain_10 rfl ?_
  refine zP_getr lf_X11_18 (zSt_ob hs 35 11 rfl) rfl (zSt_rf hs 35 5 38 rfl) dX11_closeAgain_11 ?_
  refine zJ_aload_n dX11_closeAgain_14 rfl ?_
  refine zP_getr lf_X11_21 (zSt_ob hs 35 11 rfl) rfl (zSt_rf hs 35 6 39 rfl) dX11_closeAgain_15 ?_
  refine zJ_aload_n dX11_closeAgain_18 rfl ?_
  refine zP_geti lf_X11_31 (zSt_ob hs 35 11 rfl) rfl dX11_closeAgain_19 ?_
  rw [zup_same, upd_at]
  refine zP_iald (zSt_ar hs 39 6 rfl) (by first | assumption | with_reducible exact vp_in_nI (by omega) (by omega) | (simp (disch := omega) only [nI_add, pk_mul, pk_sub, pk_div, pk_rem, nI_clamp]; with_reducible exact vp_in_nI (by omega) (by omega))) dX11_closeAgain_22 ?_
  rw [zup_row (by decide), nI_clamp (by omega), ho]
  refine zJ_aload_n dX11_closeAgain_23 rfl ?_
  refine zP_geti lf_X11_27 (zSt_ob hs 35 11 rfl) rfl dX11_closeAgain_24 ?_
  rw [zup_same, upd_ne (by decide), h1]
  refine zP_iast (zSt_ar hs 38 150 rfl) (by first | assumption | with_reducible exact vp_in_nI (by omega) (by omega) | (simp (disch := omega) only [nI_add, pk_mul, pk_sub, pk_div, pk_rem, nI_clamp]; with_reducible exact vp_in_nI (by omega) (by omega))) dX11_closeAgain_27 ?_
  rw [nI_clamp (by omega)]
  refine zJ_aload_n dX11_closeAgain_28 rfl ?_
  refine zJ_bipush (v := nI 7) dX11_closeAgain_29 rfl ?_
  refine zJ_aload_n dX11_closeAgain_31 rfl ?_
  refine zP_getr lf_X11_21 (zSt_ob hs 35 11 rfl) rfl (zSt_rf hs 35 6 39 rfl) dX11_closeAgain_32 ?_
  refine zJ_aload_n dX11_closeAgain_35 rfl ?_
  refine zP_geti lf_X11_31 (zSt_ob hs 35 11 rfl) rfl dX11_closeAgain_36 ?_
  rw [zup_row (by decide), zup_same, upd_at]
  refine zP_iald (zSt_ar hs 39 6 rfl) (by first | assumption | with_reducible exact vp_in_nI (by omega) (by omega) | (simp (disch := omega) only [nI_add, pk_mul, pk_sub, pk_div, pk_rem, nI_clamp]; with_reducible exact vp_in_nI (by omega) (by omega))) dX11_closeAgain_39 ?_
  rw [zup_row (by decide), zup_row (by decide), nI_clamp (by omega), ho]
  refine zJ_iconst (v := nI 0) dX11_closeAgain_40 rfl ?_
  refine zP_callVv [_, _, _] _ lv_X11_73 (k_emitW (n := ts.length) (d := d - 1) hl (by omega) hs (by rw [zup_row (by decide), zup_same, upd_ne (by decide)]; exact h1) hn) (zSt_ob hs 35 11 rfl) rfl (by omega) (Nat.le_of_ble_eq_true rfl) rfl dX11_closeAgain_41 ?_
  refine zJ_vret rfl dX11_closeAgain_44 ?_
  refine ⟨rfl, _, rfl, fun a p q => ?_, ?_, ?_⟩
  · rw [emW_row (by omega), zup_row (by omega), zup_row (by omega)]
  · rw [emW_row (by omega), zup_row (by omega), zup_row (by omega)]
  · have := emW_wk (k := 7) (f := b) (t := 0) hw (by rw [List.length_set]; exact hn)
    rw [List.length_set] at this
    exact this
theorem k_openAgain (hl : l.stackTraces = false) (hd : 3 ≤ d) (hs : zSt g) {bs : Nat → Nat} {L A F o : Nat} {ts : List tok} {ops : Nat → Nat} (ht : tX I bs L A F none) (h : wk I ts o ops) (hn : ts.length < 150) : zEv l Xi mX11_openAgain d [.ref 35, .ref 1] I g (fun J => fW I J ∧ ∃ A' F', pOk J bs L A' F' (if 6 ≤ o then .inl (3, F) else pbind (pNum bs L 0 41 A) fun n A => pbind (pSign bs L 91 A) fun _ A => .inr (n, A)) (fun n => n ≤ 40 ∧ wk J (ts ++ [(6, n, 0)]) (o + 1) (un ops o ts.length))) := by
  refine zC_of hl rfl rfl rfl (Nat.le_of_ble_eq_true rfl) (zav_r (zSt_ob hs 35 11 rfl).1 (zav_r (zSt_ob hs 1 10 rfl).1 zav_0)) ?_
  obtain ⟨h1, h2, h3, h4, h5, h6⟩ := h
  by_cases e : 6 ≤ o
  · rw [if_pos e]
    refine zJ_aload_n dX11_openAgain_0 rfl ?_
    refine zP_geti lf_X11_31 (zSt_ob hs 35 11 rfl) rfl dX11_openAgain_1 ?_
    refine zJ_bipush (v := nI 6) dX11_openAgain_4 rfl ?_
    rw [h4]
    refine zJ_icmp_lt 19 dX11_openAgain_6 (by decide) (fun c6 => absurd c6 (nI_nlt e (by omega))) (fun _ => ?_)
    refine zJ_aload_n dX11_openAgain_9 rfl ?_
    refine zJ_iconst (v := nI 3) dX11_openAgain_10 rfl ?_
    refine zJ_aload_n dX11_openAgain_11 rfl ?_
    refine zP_geti lf_X11_102 (zSt_ob hs 1 10 rfl) rfl dX11_openAgain_12 ?_
    refine zP_ecallVv [_, _] _ lv_X11_105 (k_failP (β := Nat) (Q := fun _ => False) (w := F) (d := d - 1) hl (by omega) hs (pOk_0 ht) (by omega) (by omega) (tX_fr ht)) (zSt_ob hs 1 10 rfl) rfl (by omega) (Nat.le_of_ble_eq_true rfl) rfl dX11_openAgain_15 (fun J hJ => ?_)
    refine zJ_vret rfl dX11_openAgain_18 ?_
    exact ⟨rfl, J, rfl, fW_fT hJ.1, A, F, pOk_imp hJ.2 (fun _ z => z.elim)⟩
  · rw [if_neg e]
    have hw : wk (zup (zup I 39 o (nI ts.length)) 35 2 (nI (o + 1))) ts (o + 1) (un ops o ts.length) := by
      refine ⟨by rw [zup_same, upd_ne (by decide), zup_row (by decide)]; exact h1, h2, fun i hi => by rw [zup_row (by decide), zup_row (by decide), zup_row (by decide), zup_row (by decide), zup_row (by decide), zup_row (by decide)]; exact h3 i hi, by rw [zup_same, upd_at], by omega, fun i hi => ?_⟩
      rw [zup_row (by decide), zup_same]
      by_cases z : i = o
      · rw [z, upd_at, un_at]
      · rw [upd_ne z, un_ne z]; exact h6 i (by omega)
    have htw : tX (zup (zup I 39 o (nI ts.length)) 35 2 (nI (o + 1))) bs L A F none := tX_of ht (by rw [zup_row (by decide), zup_row (by decide)]) (by rw [zup_row (by decide), zup_row (by decide)])
    refine zJ_aload_n dX11_openAgain_0 rfl ?_
    refine zP_geti lf_X11_31 (zSt_ob hs 35 11 rfl) rfl dX11_openAgain_1 ?_
    refine zJ_bipush (v := nI 6) dX11_openAgain_4 rfl ?_
    rw [h4]
    refine zJ_icmp_lt 19 dX11_openAgain_6 (by decide) (fun _ => ?_) (fun c6 => absurd (nI_lt (by omega) (by omega)) c6)
    refine zJ_aload_n dX11_openAgain_19 rfl ?_
    refine zP_getr lf_X11_21 (zSt_ob hs 35 11 rfl) rfl (zSt_rf hs 35 6 39 rfl) dX11_openAgain_20 ?_
    refine zJ_aload_n dX11_openAgain_23 rfl ?_
    refine zP_geti lf_X11_31 (zSt_ob hs 35 11 rfl) rfl dX11_openAgain_24 ?_
    rw [h4]
    refine zJ_aload_n dX11_openAgain_27 rfl ?_
    refine zP_geti lf_X11_27 (zSt_ob hs 35 11 rfl) rfl dX11_openAgain_28 ?_
    rw [h1]
    refine zP_iast (zSt_ar hs 39 6 rfl) (by first | assumption | with_reducible exact vp_in_nI (by omega) (by omega) | (simp (disch := omega) only [nI_add, pk_mul, pk_sub, pk_div, pk_rem, nI_clamp]; with_reducible exact vp_in_nI (by omega) (by omega))) dX11_openAgain_31 ?_
    rw [nI_clamp (by omega)]
    refine zJ_aload_n dX11_openAgain_32 rfl ?_
    refine zJ_dup dX11_openAgain_33 rfl ?_
    refine zP_geti lf_X11_31 (zSt_ob hs 35 11 rfl) rfl dX11_openAgain_34 ?_
    rw [zup_row (by decide), h4]
    refine zJ_iconst (v := nI 1) dX11_openAgain_37 rfl ?_
    refine zJ_iadd dX11_openAgain_38 ?_
    rw [nI_add]
    refine zP_puti lf_X11_31 (zSt_ob hs 35 11 rfl) rfl dX11_openAgain_39 ?_
    refine zJ_aload_n dX11_openAgain_42 rfl ?_
    refine zJ_bipush (v := nI 6) dX11_openAgain_43 rfl ?_
    refine zJ_aload_n dX11_openAgain_45 rfl ?_
    refine zJ_iconst (v := nI 0) dX11_openAgain_46 rfl ?_
    refine zJ_bipush (v := nI 40) dX11_openAgain_47 rfl ?_
    refine zP_ecallVi [_, _] _ lv_X11_84 (k_numP (lo := 0) (hi := 41) (d := d - 1) hl (by omega) hs (pOk_0 htw) (by omega) (by omega) rfl (nI_pred 40).symm) (zSt_ob hs 1 10 rfl) rfl (by omega) (Nat.le_of_ble_eq_true rfl) rfl dX11_openAgain_49 (fun x J1 hx => ?_)
    obtain ⟨c, rfl, hc, f1, hp1⟩ := hx
    have hw1 := wk_fT hw f1
    refine zJ_iconst (v := nI 0) dX11_openAgain_52 rfl ?_
    refine zP_callVv [_, _, _] _ lv_X11_73 (k_emitW (n := ts.length) (d := d - 1) hl (by omega) hs hw1.1 hn) (zSt_ob hs 35 11 rfl) rfl (by omega) (Nat.le_of_ble_eq_true rfl) rfl dX11_openAgain_53 ?_
    refine zJ_aload_n dX11_openAgain_56 rfl ?_
    refine zJ_bipush (v := nI 91) dX11_openAgain_57 rfl ?_
    refine zP_ecallVv [_] _ lv_X11_50 (k_needP (d := d - 1) hl (by omega) hs (pOk_of hp1 (emW_row (by decide)) (emW_row (by decide))) (by omega)) (zSt_ob hs 1 10 rfl) rfl (by omega) (Nat.le_of_ble_eq_true rfl) rfl dX11_openAgain_59 (fun J2 hJ2 => ?_)
    refine zJ_vret rfl dX11_openAgain_62 ?_
    obtain ⟨f2, A2, F2, hp2⟩ := hJ2
    refine ⟨rfl, J2, rfl, fun a p q => ?_, A2, F2, pOk_map (fun q => q.2) hp2 ?_ (fun q hq => ?_)⟩
    · rw [f2 a p, emW_row (by omega), f1 a p, zup_row (by omega), zup_row (by omega)]
    · simp only [pbind_assoc, pbind_inr]
    · obtain ⟨-, q1, q2, q3⟩ := hq
      rw [q1]
      exact ⟨by omega, wk_fT (emW_wk hw1 hn) f2⟩
end ZWorkE
