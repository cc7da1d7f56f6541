/-! ===== Survey: ways to the root ===== -/
def oI : Option Nat → Int32
  | none => -1
  | some q => nI q
def unI (x : Int32) : Option Nat := if x = -1 then none else some x.toNatClampNeg
/-- ways: none, north to west, or the root -/
def wok (w : Nat → Int32) : Prop := ∀ k, k < 384 → w k = -1 ∨ ∃ c, c ≤ 4 ∧ w k = nI c
def bok (bs : Nat → Int32) : Prop := ∀ k, k < 256 → bs k = -1 ∨ ∃ q, q < 64 ∧ bs k = nI q
theorem nI_ne1 {q : Nat} (h : q < 2 ^ 31) : ¬ nI q = -1 := fun e => by
  have h1 := congrArg Int32.toInt e
  rw [nI_toInt h] at h1
  have h2 : (-1 : Int32).toInt = -1 := by decide
  omega
theorem oI_un {bs : Nat → Int32} (h : bok bs) {k : Nat} (hk : k < 256) : oI (unI (bs k)) = bs k := by
  rcases h k hk with e | ⟨q, hq, e⟩
  · rw [e]; rfl
  · rw [e, unI, if_neg (nI_ne1 (by omega)), nI_clamp (by omega)]; rfl
theorem un_lt {bs : Nat → Int32} (h : bok bs) {k q : Nat} (hk : k < 256) (e : unI (bs k) = some q) : q < 64 := by
  rcases h k hk with e1 | ⟨q1, hq, e1⟩
  · rw [e1] at e; cases e
  · rw [e1, unI, if_neg (nI_ne1 (by omega)), nI_clamp (by omega)] at e; cases e; exact hq
def par (w bs : Nat → Int32) (n p : Nat) : Option Nat := if w (n * 64 + p) = -1 ∨ w (n * 64 + p) = 4 then none else unI (bs (p * 4 + (w (n * 64 + p)).toNatClampNeg))
theorem par_lt {w bs : Nat → Int32} (hw : wok w) (hb : bok bs) {n p q : Nat} (hn : n < 6) (hp : p < 64) (e : par w bs n p = some q) : q < 64 := by
  unfold par at e
  by_cases h : w (n * 64 + p) = -1 ∨ w (n * 64 + p) = 4
  · rw [if_pos h] at e; cases e
  · rw [if_neg h] at e
    rcases hw (n * 64 + p) (by omega) with h1 | ⟨c, hc, h1⟩
    · exact absurd (Or.inl h1) h
    · have : c ≠ 4 := fun e4 => h (Or.inr (by rw [h1, e4]; rfl))
      rw [h1, nI_clamp (by omega)] at e
      exact un_lt hb (by omega) e
/-- steps upward, at most k -/
def stp (w bs : Nat → Int32) (n : Nat) : Nat → Option Nat → Nat
  | 0, _ => 0
  | _ + 1, none => 0
  | k + 1, some q => stp w bs n k (par w bs n q) + 1
theorem stp_none {w bs : Nat → Int32} {n k : Nat} : stp w bs n k none = 0 := by cases k <;> rfl
theorem stp_le {w bs : Nat → Int32} {n : Nat} : ∀ {k : Nat} {o : Option Nat}, stp w bs n k o ≤ k
  | 0, o => by simp [stp]
  | k + 1, none => by simp [stp]
  | k + 1, some q => by
    have := stp_le (w := w) (bs := bs) (n := n) (k := k) (o := par w bs n q)
    simp only [stp]; omega
def stR (w bs : Nat → Int32) (n p : Nat) : Nat := stp w bs n 64 (par w bs n p)
def maxI (f : Nat → Int32) : Nat → Int32 := lp (fun p a => if f p ≤ a then a else f p) 0
theorem maxI_succ {f : Nat → Int32} {p : Nat} : maxI f (p + 1) = if f p ≤ maxI f p then maxI f p else f p := rfl
theorem cntF_succ {f : Nat → Bool} {p : Nat} : cntF f (p + 1) = cntF f p + if f p then 1 else 0 := rfl
theorem bitF_succ {f : Nat → Bool} {p : Nat} : bitF f (p + 1) = bitF f p ||| if f p then nI 1 <<< (nI p &&& 31) else 0 := rfl
theorem sumF_succ {f : Nat → Int32} {p : Nat} : sumF f (p + 1) = sumF f p + f p := rfl
section ZSurvey3
variable {l : Launch} {Xi : zXi} {d : Nat} {I : zI} {g : zG}
theorem k_X9_above (hl : l.stackTraces = false) (hd : 1 ≤ d) (hs : zSt g) {s n p : Nat} (hst : zK g s 8 zLt_State) (hw : wok (I (s + 1))) (hb : bok (I 11)) (hn : n < 6) (hp : p < 64) : zD l Xi mX9_above d [.ref 41, .ref s, .int (nI n), .int (nI p)] I g (some (.int (oI (par (I (s + 1)) (I 11) n p)))) I := by
  refine zC_of hl rfl rfl rfl (Nat.le_of_ble_eq_true rfl) (zav_r (zSt_ob hs 41 9 rfl).1 (zav_r hst.1.1 (zav_i (zav_i zav_0)))) ?_
  refine zJ_aload_n dX9_above_0 rfl ?_
  refine zP_getr lf_X9_70 hst.1 rfl (zK_rf hst 0 0 1 384 rfl) dX9_above_1 ?_
  refine zJ_iload_n dX9_above_4 rfl ?_
  refine zJ_bipush (v := nI 64) dX9_above_5 rfl ?_
  refine zJ_imul dX9_above_7 ?_
  refine zJ_iload_n dX9_above_8 rfl ?_
  refine zJ_iadd dX9_above_9 ?_
  refine zP_iald (zK_ar hst 0 0 1 384 rfl) (by first | assumption | with_reducible exact vp_in_nI (by omega) (by omega) | (simp (disch := omega) only [nI_add, pk_mul, pk_sub, pk_div, pk_rem, nI_clamp]; with_reducible exact vp_in_nI (by omega) (by omega))) dX9_above_10 ?_
  refine zJ_istore dX9_above_11 (Nat.le_of_ble_eq_true rfl) (by decide) ?_
  simp (disch := omega) only [nI_add, pk_mul, nI_clamp]
  refine zJ_iload dX9_above_13 rfl ?_
  refine zJ_iconst (v := -1) dX9_above_15 rfl ?_
  refine zJ_icmp_eq 25 dX9_above_16 (by decide) (fun c16 => ?_) (fun c16 => ?_)
  · skip
    refine zJ_iconst (v := -1) dX9_above_25 rfl ?_
    refine zJ_goto 43 dX9_above_26 (by decide) ?_
    refine zJ_iret rfl dX9_above_43 ?_
    exact ⟨by simp [par, c16]; rfl, rfl⟩
  · skip
    refine zJ_iload dX9_above_19 rfl ?_
    refine zJ_iconst (v := nI 4) dX9_above_21 rfl ?_
    refine zJ_icmp_ne 29 dX9_above_22 (by decide) (fun c22 => ?_) (fun c22 => ?_)
    · skip
      have hwk := hw (n * 64 + p) (by omega)
      obtain ⟨c, hc4, hcw⟩ := hwk.resolve_left c16
      have hc3 : c ≠ 4 := fun e4 => c22 (by rw [hcw, e4])
      refine zJ_aload_n dX9_above_29 rfl ?_
      refine zP_getr lf_X9_15 (zSt_ob hs 41 9 rfl) rfl (zSt_rf hs 41 0 3 rfl) dX9_above_30 ?_
      refine zP_getr lf_X9_73 (zSt_ob hs 3 0 rfl) rfl (zSt_rf hs 3 11 11 rfl) dX9_above_33 ?_
      refine zJ_iload_n dX9_above_36 rfl ?_
      refine zJ_iconst (v := nI 4) dX9_above_37 rfl ?_
      refine zJ_imul dX9_above_38 ?_
      refine zJ_iload dX9_above_39 rfl ?_
      refine zJ_iadd dX9_above_41 ?_
      simp only [hcw]
      refine zP_iald (zSt_ar hs 11 256 rfl) (by first | assumption | with_reducible exact vp_in_nI (by omega) (by omega) | (simp (disch := omega) only [nI_add, pk_mul, pk_sub, pk_div, pk_rem, nI_clamp]; with_reducible exact vp_in_nI (by omega) (by omega))) dX9_above_42 ?_
      refine zJ_iret rfl dX9_above_43 ?_
      have h1 : par (I (s + 1)) (I 11) n p = unI (I 11 (p * 4 + c)) := by
        unfold par
        rw [if_neg (fun h => h.elim c16 (fun h4 => c22 h4)), hcw, nI_clamp (by omega)]
      refine ⟨?_, rfl⟩
      rw [h1, oI_un hb (by omega)]
      simp (disch := omega) only [nI_add, pk_mul, nI_clamp]
    · skip
      refine zJ_iconst (v := -1) dX9_above_25 rfl ?_
      refine zJ_goto 43 dX9_above_26 (by decide) ?_
      refine zJ_iret rfl dX9_above_43 ?_
      exact ⟨by simp [par, show I (s + 1) (n * 64 + p) = 4 from c22]; rfl, rfl⟩
theorem k_X9_stepsToRoot (hl : l.stackTraces = false) (hd : 2 ≤ d) (hs : zSt g) {s n p : Nat} (hst : zK g s 8 zLt_State) (hw : wok (I (s + 1))) (hb : bok (I 11)) (hn : n < 6) (hp : p < 64) : zD l Xi mX9_stepsToRoot d [.ref 41, .ref s, .int (nI n), .int (nI p)] I g (some (.int (nI (stR (I (s + 1)) (I 11) n p)))) I := by
  refine zC_of hl rfl rfl rfl (Nat.le_of_ble_eq_true rfl) (zav_r (zSt_ob hs 41 9 rfl).1 (zav_r hst.1.1 (zav_i (zav_i zav_0)))) ?_
  have loop : ∀ m k, k + m = 64 → ∀ (o : Option Nat), (k + stp (I (s + 1)) (I 11) n (64 - k) o = stR (I (s + 1)) (I 11) n p ∧ ∀ q, o = some q → q < 64) → zJ l Xi mX9_stepsToRoot d 0 0 12 [some (.ref 41), some (.ref s), some (.int (nI n)), some (.int (nI p)), some (.int (oI o)), some (.int (nI k))] [] (I, g) (fun r' h' => r' = .inl (some (.int (nI (stR (I (s + 1)) (I 11) n p)))) ∧ h' = (I, g)) := by
    intro m
    induction m with
    | zero =>
      intro k hp o hI
      obtain rfl : k = 64 := by omega
      refine zJ_iload dX9_stepsToRoot_12 rfl ?_
      refine zJ_bipush (v := nI 64) dX9_stepsToRoot_14 rfl ?_
      refine zJ_icmp_ge 41 dX9_stepsToRoot_16 (by decide) (fun _ => ?_) (fun c16 => absurd (nI_le (by omega) (by omega)) c16)
      refine zJ_iload dX9_stepsToRoot_41 rfl ?_
      refine zJ_iret rfl dX9_stepsToRoot_43 ?_
      refine ⟨?_, rfl⟩
      have := hI.1
      simp only [stp, Nat.sub_self, Nat.add_zero] at this
      rw [← this]
    | succ m ih =>
      intro k hp o hI
      refine zJ_iload dX9_stepsToRoot_12 rfl ?_
      refine zJ_bipush (v := nI 64) dX9_stepsToRoot_14 rfl ?_
      refine zJ_icmp_ge 41 dX9_stepsToRoot_16 (by decide) (fun c16 => absurd c16 (nI_ge (by omega) (by omega))) (fun _ => ?_)
      refine zJ_iload dX9_stepsToRoot_19 rfl ?_
      refine zJ_iconst (v := -1) dX9_stepsToRoot_21 rfl ?_
      refine zJ_icmp_eq 41 dX9_stepsToRoot_22 (by decide) (fun c22 => ?_) (fun c22 => ?_)
      · skip
        refine zJ_iload dX9_stepsToRoot_41 rfl ?_
        refine zJ_iret rfl dX9_stepsToRoot_43 ?_
        have ho : o = none := by
          cases o with
          | none => rfl
          | some q => exact absurd c22 (nI_ne1 (by have := hI.2 q rfl; omega))
        subst ho
        refine ⟨?_, rfl⟩
        have := hI.1
        rw [stp_none] at this
        rw [← this, Nat.add_zero]
      · skip
        obtain ⟨q, rfl⟩ : ∃ q, o = some q := by cases o with | none => exact absurd rfl c22 | some q => exact ⟨q, rfl⟩
        have hq := hI.2 q rfl
        refine zJ_aload_n dX9_stepsToRoot_25 rfl ?_
        refine zJ_aload_n dX9_stepsToRoot_26 rfl ?_
        refine zJ_iload_n dX9_stepsToRoot_27 rfl ?_
        refine zJ_iload dX9_stepsToRoot_28 rfl ?_
        refine zP_callVi [_, _, _] _ lv_X9_76 (k_X9_above (d := d - 1) hl (by omega) hs hst hw hb hn hq) (zSt_ob hs 41 9 rfl) rfl (by omega) (Nat.le_of_ble_eq_true rfl) rfl dX9_stepsToRoot_30 ?_
        refine zJ_istore dX9_stepsToRoot_33 (Nat.le_of_ble_eq_true rfl) (by decide) ?_
        refine zJ_iinc1 dX9_stepsToRoot_35 rfl (by decide) ?_
        refine zJ_goto 12 dX9_stepsToRoot_38 (by decide) ?_
        refine ih (k + 1) (by omega) (par (I (s + 1)) (I 11) n q) ⟨?_, fun q2 h2 => par_lt hw hb hn hq h2⟩
        have := hI.1
        rw [show 64 - k = (64 - (k + 1)) + 1 by omega] at this
        simp only [stp] at this
        omega
  refine zJ_aload_n dX9_stepsToRoot_0 rfl ?_
  refine zJ_aload_n dX9_stepsToRoot_1 rfl ?_
  refine zJ_iload_n dX9_stepsToRoot_2 rfl ?_
  refine zJ_iload_n dX9_stepsToRoot_3 rfl ?_
  refine zP_callVi [_, _, _] _ lv_X9_76 (k_X9_above (d := d - 1) hl (by omega) hs hst hw hb hn hp) (zSt_ob hs 41 9 rfl) rfl (by omega) (Nat.le_of_ble_eq_true rfl) rfl dX9_stepsToRoot_4 ?_
  refine zJ_istore dX9_stepsToRoot_7 (Nat.le_of_ble_eq_true rfl) (by decide) ?_
  refine zJ_iconst (v := nI 0) dX9_stepsToRoot_9 rfl ?_
  refine zJ_istore dX9_stepsToRoot_10 (Nat.le_of_ble_eq_true rfl) (by decide) ?_
  exact loop 64 0 (by omega) (par (I (s + 1)) (I 11) n p) ⟨by simp [stR], fun q h => par_lt hw hb hn hp h⟩
theorem k_X9_delayOf (hl : l.stackTraces = false) (hd : 3 ≤ d) (hs : zSt g) {s n C R N : Nat} {pc : Nat → Nat} {pn : Nat → Nat → Nat} (hbd : zBd I 3 C R N pc pn) (hst : zK g s 8 zLt_State) (hw : wok (I (s + 1))) (hb : bok (I 11)) (hn : n < 6) : zD l Xi mX9_delayOf d [.ref 41, .ref s, .int (nI n)] I g (some (.int (maxI (fun i => nI (stR (I (s + 1)) (I 11) n (pn n i))) (pc n)))) I := by
  refine zC_of hl rfl rfl rfl (Nat.le_of_ble_eq_true rfl) (zav_r (zSt_ob hs 41 9 rfl).1 (zav_r hst.1.1 (zav_i zav_0))) ?_
  have hpc := (hbd.2.2.2.2.2.2.1 n hn).1
  have hpc4 := (hbd.2.2.2.2.2.2.1 n hn).2
  have loop : ∀ m p, p + m = pc n → zJ l Xi mX9_delayOf d 0 0 5 [some (.ref 41), some (.ref s), some (.int (nI n)), some (.int (maxI (fun i => nI (stR (I (s + 1)) (I 11) n (pn n i))) p)), some (.int (nI p)), none] [] (I, g) (fun r' h' => r' = .inl (some (.int (maxI (fun i => nI (stR (I (s + 1)) (I 11) n (pn n i))) (pc n)))) ∧ h' = (I, g)) := by
    intro m
    induction m with
    | zero =>
      intro p hp
      obtain rfl : p = pc n := by omega
      refine zJ_iload dX9_delayOf_5 rfl ?_
      refine zJ_aload_n dX9_delayOf_7 rfl ?_
      refine zP_getr lf_X9_15 (zSt_ob hs 41 9 rfl) rfl (zSt_rf hs 41 0 3 rfl) dX9_delayOf_8 ?_
      refine zP_getr lf_X9_37 (zSt_ob hs 3 0 rfl) rfl (zSt_rf hs 3 6 6 rfl) dX9_delayOf_11 ?_
      refine zJ_iload_n dX9_delayOf_14 rfl ?_
      refine zP_iald (zSt_ar hs 6 6 rfl) (by first | assumption | with_reducible exact vp_in_nI (by omega) (by omega) | (simp (disch := omega) only [nI_add, pk_mul, pk_sub, pk_div, pk_rem, nI_clamp]; with_reducible exact vp_in_nI (by omega) (by omega))) dX9_delayOf_15 ?_
      refine zJ_icmp_ge 60 dX9_delayOf_16 (by decide) (fun _ => ?_) (fun c16 => absurd (by rw [nI_clamp (by omega), hpc]; exact nI_le (by omega) (by omega)) c16)
      refine zJ_iload_n dX9_delayOf_60 rfl ?_
      refine zJ_iret rfl dX9_delayOf_61 ?_
      exact ⟨rfl, rfl⟩
    | succ m ih =>
      intro p hp
      have hpin := hbd.2.2.2.2.2.2.2 n p hn (by omega)
      refine zJ_iload dX9_delayOf_5 rfl ?_
      refine zJ_aload_n dX9_delayOf_7 rfl ?_
      refine zP_getr lf_X9_15 (zSt_ob hs 41 9 rfl) rfl (zSt_rf hs 41 0 3 rfl) dX9_delayOf_8 ?_
      refine zP_getr lf_X9_37 (zSt_ob hs 3 0 rfl) rfl (zSt_rf hs 3 6 6 rfl) dX9_delayOf_11 ?_
      refine zJ_iload_n dX9_delayOf_14 rfl ?_
      refine zP_iald (zSt_ar hs 6 6 rfl) (by first | assumption | with_reducible exact vp_in_nI (by omega) (by omega) | (simp (disch := omega) only [nI_add, pk_mul, pk_sub, pk_div, pk_rem, nI_clamp]; with_reducible exact vp_in_nI (by omega) (by omega))) dX9_delayOf_15 ?_
      refine zJ_icmp_ge 60 dX9_delayOf_16 (by decide) (fun c16 => absurd c16 (by rw [nI_clamp (by omega), hpc]; exact nI_ge (by omega) (by omega))) (fun _ => ?_)
      refine zJ_aload_n dX9_delayOf_19 rfl ?_
      refine zJ_aload_n dX9_delayOf_20 rfl ?_
      refine zJ_iload_n dX9_delayOf_21 rfl ?_
      refine zJ_aload_n dX9_delayOf_22 rfl ?_
      refine zP_getr lf_X9_15 (zSt_ob hs 41 9 rfl) rfl (zSt_rf hs 41 0 3 rfl) dX9_delayOf_23 ?_
      refine zP_getr lf_X9_40 (zSt_ob hs 3 0 rfl) rfl (zSt_rf hs 3 7 7 rfl) dX9_delayOf_26 ?_
      refine zJ_iload_n dX9_delayOf_29 rfl ?_
      refine zJ_iconst (v := nI 4) dX9_delayOf_30 rfl ?_
      refine zJ_imul dX9_delayOf_31 ?_
      refine zJ_iload dX9_delayOf_32 rfl ?_
      refine zJ_iadd dX9_delayOf_34 ?_
      refine zP_iald (zSt_ar hs 7 24 rfl) (by first | assumption | with_reducible exact vp_in_nI (by omega) (by omega) | (simp (disch := omega) only [nI_add, pk_mul, pk_sub, pk_div, pk_rem, nI_clamp]; with_reducible exact vp_in_nI (by omega) (by omega))) dX9_delayOf_35 ?_
      simp (disch := omega) only [nI_add, pk_mul, nI_clamp]
      rw [hpin.1]
      refine zP_callVi [_, _, _] _ lv_X9_80 (k_X9_stepsToRoot (d := d - 1) hl (by omega) hs hst hw hb hn hpin.2) (zSt_ob hs 41 9 rfl) rfl (by omega) (Nat.le_of_ble_eq_true rfl) rfl dX9_delayOf_36 ?_
      refine zJ_istore dX9_delayOf_39 (Nat.le_of_ble_eq_true rfl) (by decide) ?_
      refine zJ_iload dX9_delayOf_41 rfl ?_
      refine zJ_iload_n dX9_delayOf_43 rfl ?_
      refine zJ_icmp_le 52 dX9_delayOf_44 (by decide) (fun c44 => ?_) (fun c44 => ?_)
      · skip
        refine zJ_iload_n dX9_delayOf_52 rfl ?_
        refine zJ_istore_m 3 dX9_delayOf_53 rfl (Nat.le_of_ble_eq_true rfl) (by decide) ?_
        refine zJ_iinc1 dX9_delayOf_54 rfl (by decide) ?_
        refine zJ_goto 5 dX9_delayOf_57 (by decide) ?_
        exact zJ_back (zle_r (zle_r (zle_i (by first | rfl | (simp [maxI_succ, nI0, nI1, *]; done)) (zle_i (by first | rfl | (simp [maxI_succ, nI0, nI1, *]; done)) (zle_i (by first | rfl | (simp [maxI_succ, nI0, nI1, *]; done)) (zle_n zle_0)))))) rfl (ih (p + 1) (by omega) )
      · skip
        refine zJ_iload dX9_delayOf_47 rfl ?_
        refine zJ_goto 53 dX9_delayOf_49 (by decide) ?_
        refine zJ_istore_m 3 dX9_delayOf_53 rfl (Nat.le_of_ble_eq_true rfl) (by decide) ?_
        refine zJ_iinc1 dX9_delayOf_54 rfl (by decide) ?_
        refine zJ_goto 5 dX9_delayOf_57 (by decide) ?_
        exact zJ_back (zle_r (zle_r (zle_i (by first | rfl | (simp [maxI_succ, nI0, nI1, *]; done)) (zle_i (by first | rfl | (simp [maxI_succ, nI0, nI1, *]; done)) (zle_i (by first | rfl | (simp [maxI_succ, nI0, nI1, *]; done)) (zle_n zle_0)))))) rfl (ih (p + 1) (by omega) )
  refine zJ_iconst (v := nI 0) dX9_delayOf_0 rfl ?_
  refine zJ_istore_m 3 dX9_delayOf_1 rfl (Nat.le_of_ble_eq_true rfl) (by decide) ?_
  refine zJ_iconst (v := nI 0) dX9_delayOf_2 rfl ?_
  refine zJ_istore dX9_delayOf_3 (Nat.le_of_ble_eq_true rfl) (by decide) ?_
  exact loop (pc n) 0 (by omega)
theorem k_X9_deepestOf (hl : l.stackTraces = false) (hd : 3 ≤ d) (hs : zSt g) {s n : Nat} (hst : zK g s 8 zLt_State) (hw : wok (I (s + 1))) (hb : bok (I 11)) (hn : n < 6) : zD l Xi mX9_deepestOf d [.ref 41, .ref s, .int (nI n)] I g (some (.int (maxI (fun p => nI (stR (I (s + 1)) (I 11) n p)) 64))) I := by
  refine zC_of hl rfl rfl rfl (Nat.le_of_ble_eq_true rfl) (zav_r (zSt_ob hs 41 9 rfl).1 (zav_r hst.1.1 (zav_i zav_0))) ?_
  have loop : ∀ m p, p + m = 64 → zJ l Xi mX9_deepestOf d 0 0 5 [some (.ref 41), some (.ref s), some (.int (nI n)), some (.int (maxI (fun p => nI (stR (I (s + 1)) (I 11) n p)) p)), some (.int (nI p)), none] [] (I, g) (fun r' h' => r' = .inl (some (.int (maxI (fun p => nI (stR (I (s + 1)) (I 11) n p)) 64))) ∧ h' = (I, g)) := by
    intro m
    induction m with
    | zero =>
      intro p hp
      obtain rfl : p = 64 := by omega
      refine zJ_iload dX9_deepestOf_5 rfl ?_
      refine zJ_bipush (v := nI 64) dX9_deepestOf_7 rfl ?_
      refine zJ_icmp_ge 41 dX9_deepestOf_9 (by decide) (fun _ => ?_) (fun c9 => absurd (nI_le (by omega) (by omega)) c9)
      refine zJ_iload_n dX9_deepestOf_41 rfl ?_
      refine zJ_iret rfl dX9_deepestOf_42 ?_
      exact ⟨rfl, rfl⟩
    | succ m ih =>
      intro p hp
      refine zJ_iload dX9_deepestOf_5 rfl ?_
      refine zJ_bipush (v := nI 64) dX9_deepestOf_7 rfl ?_
      refine zJ_icmp_ge 41 dX9_deepestOf_9 (by decide) (fun c9 => absurd c9 (nI_ge (by omega) (by omega))) (fun _ => ?_)
      refine zJ_aload_n dX9_deepestOf_12 rfl ?_
      refine zJ_aload_n dX9_deepestOf_13 rfl ?_
      refine zJ_iload_n dX9_deepestOf_14 rfl ?_
      refine zJ_iload dX9_deepestOf_15 rfl ?_
      refine zP_callVi [_, _, _] _ lv_X9_80 (k_X9_stepsToRoot (d := d - 1) hl (by omega) hs hst hw hb hn (by omega)) (zSt_ob hs 41 9 rfl) rfl (by omega) (Nat.le_of_ble_eq_true rfl) rfl dX9_deepestOf_17 ?_
      refine zJ_istore dX9_deepestOf_20 (Nat.le_of_ble_eq_true rfl) (by decide) ?_
      refine zJ_iload dX9_deepestOf_22 rfl ?_
      refine zJ_iload_n dX9_deepestOf_24 rfl ?_
      refine zJ_icmp_le 33 dX9_deepestOf_25 (by decide) (fun c25 => ?_) (fun c25 => ?_)
      · skip
        refine zJ_iload_n dX9_deepestOf_33 rfl ?_
        refine zJ_istore_m 3 dX9_deepestOf_34 rfl (Nat.le_of_ble_eq_true rfl) (by decide) ?_
        refine zJ_iinc1 dX9_deepestOf_35 rfl (by decide) ?_
        refine zJ_goto 5 dX9_deepestOf_38 (by decide) ?_
        exact zJ_back (zle_r (zle_r (zle_i (by first | rfl | (simp [maxI_succ, nI0, nI1, *]; done)) (zle_i (by first | rfl | (simp [maxI_succ, nI0, nI1, *]; done)) (zle_i (by first | rfl | (simp [maxI_succ, nI0, nI1, *]; done)) (zle_n zle_0)))))) rfl (ih (p + 1) (by omega) )
      · skip
        refine zJ_iload dX9_deepestOf_28 rfl ?_
        refine zJ_goto 34 dX9_deepestOf_30 (by decide) ?_
        refine zJ_istore_m 3 dX9_deepestOf_34 rfl (Nat.le_of_ble_eq_true rfl) (by decide) ?_
        refine zJ_iinc1 dX9_deepestOf_35 rfl (by decide) ?_
        refine zJ_goto 5 dX9_deepestOf_38 (by decide) ?_
        exact zJ_back (zle_r (zle_r (zle_i (by first | rfl | (simp [maxI_succ, nI0, nI1, *]; done)) (zle_i (by first | rfl | (simp [maxI_succ, nI0, nI1, *]; done)) (zle_i (by first | rfl | (simp [maxI_succ, nI0, nI1, *]; done)) (zle_n zle_0)))))) rfl (ih (p + 1) (by omega) )
  refine zJ_iconst (v := nI 0) dX9_deepestOf_0 rfl ?_
  refine zJ_istore_m 3 dX9_deepestOf_1 rfl (Nat.le_of_ble_eq_true rfl) (by decide) ?_
  refine zJ_iconst (v := nI 0) dX9_deepestOf_2 rfl ?_
  refine zJ_istore dX9_deepestOf_3 (Nat.le_of_ble_eq_true rfl) (by decide) ?_
  exact loop 64 0 (by omega)
/-- how many children each place has, behind the first k places -/
def chN (w bs : Nat → Int32) (n : Nat) : Nat → Nat → Int32 := lp (fun p a => match par w bs n p with
  | none => a
  | some q => upd a q (a q + 1)) (fun _ => 0)
theorem k_X9_countChildren (hl : l.stackTraces = false) (hd : 2 ≤ d) (hs : zSt g) {s n : Nat} (hst : zK g s 8 zLt_State) (hns : s + 1 ≠ 42) (hw : wok (I (s + 1))) (hb : bok (I 11)) (hn : n < 6) : zC l Xi mX9_countChildren d 0 0 [.ref 41, .ref s, .int (nI n)] (I, g) (fun r' h' => r' = .inl none ∧ ∃ f, h' = (va_up I 42 f, g) ∧ ∀ p, p < 64 → f p = chN (I (s + 1)) (I 11) n 64 p) := by
  refine zC_of hl rfl rfl rfl (Nat.le_of_ble_eq_true rfl) (zav_r (zSt_ob hs 41 9 rfl).1 (zav_r hst.1.1 (zav_i zav_0))) ?_
  have e1 : ∀ f, va_up I 42 f (s + 1) = I (s + 1) := fun f => va_up_row hns
  have e2 : ∀ f, va_up I 42 f 11 = I 11 := fun f => va_up_row (by decide)
  have loop : ∀ m p, p + m = 64 → ∀ (f : Nat → Int32), (∀ q, q < 64 → f q = chN (I (s + 1)) (I 11) n p q) → zJ l Xi mX9_countChildren d 0 0 10 [some (.ref 41), some (.ref s), some (.int (nI n)), some (.int (nI p)), none] [] (va_up I 42 f, g) (fun r' h' => r' = .inl none ∧ ∃ f, h' = (va_up I 42 f, g) ∧ ∀ p, p < 64 → f p = chN (I (s + 1)) (I 11) n 64 p) := by
    intro m
    induction m with
    | zero =>
      intro p hp f hI
      obtain rfl : p = 64 := by omega
      refine zJ_iload_n dX9_countChildren_10 rfl ?_
      refine zJ_bipush (v := nI 64) dX9_countChildren_11 rfl ?_
      refine zJ_icmp_ge 48 dX9_countChildren_13 (by decide) (fun _ => ?_) (fun c13 => absurd (nI_le (by omega) (by omega)) c13)
      refine zJ_vret rfl dX9_countChildren_48 ?_
      exact ⟨rfl, f, rfl, hI⟩
    | succ m ih =>
      intro p hp f hI
      refine zJ_iload_n dX9_countChildren_10 rfl ?_
      refine zJ_bipush (v := nI 64) dX9_countChildren_11 rfl ?_
      refine zJ_icmp_ge 48 dX9_countChildren_13 (by decide) (fun c13 => absurd c13 (nI_ge (by omega) (by omega))) (fun _ => ?_)
      refine zJ_aload_n dX9_countChildren_16 rfl ?_
      refine zJ_aload_n dX9_countChildren_17 rfl ?_
      refine zJ_iload_n dX9_countChildren_18 rfl ?_
      refine zJ_iload_n dX9_countChildren_19 rfl ?_
      refine zP_callVi [_, _, _] _ lv_X9_76 (k_X9_above (d := d - 1) hl (by omega) hs hst (by rw [e1]; exact hw) (by rw [e2]; exact hb) hn (by omega)) (zSt_ob hs 41 9 rfl) rfl (by omega) (Nat.le_of_ble_eq_true rfl) rfl dX9_countChildren_20 ?_
      rw [e1, e2]
      refine zJ_istore dX9_countChildren_23 (Nat.le_of_ble_eq_true rfl) (by decide) ?_
      refine zJ_iload dX9_countChildren_25 rfl ?_
      refine zJ_iconst (v := -1) dX9_countChildren_27 rfl ?_
      refine zJ_icmp_eq 42 dX9_countChildren_28 (by decide) (fun c28 => ?_) (fun c28 => ?_)
      · skip
        refine zJ_iinc1 dX9_countChildren_42 rfl (by decide) ?_
        refine zJ_goto 10 dX9_countChildren_45 (by decide) ?_
        have hq : par (I (s + 1)) (I 11) n p = none := by
          cases hh : par (I (s + 1)) (I 11) n p with
          | none => rfl
          | some q => rw [hh] at c28; exact absurd c28 (nI_ne1 (by have := par_lt hw hb hn (by omega) hh; omega))
        exact zJ_back (zle_r (zle_r (zle_r (zle_r (zle_n zle_0))))) rfl (ih (p + 1) (by omega) f (fun q hq2 => by rw [hI q hq2]; simp [chN, lp, hq]))
      · skip
        obtain ⟨q, hq⟩ : ∃ q, par (I (s + 1)) (I 11) n p = some q := by cases hh : par (I (s + 1)) (I 11) n p with | none => exact absurd (by rw [hh]; rfl) c28 | some q => exact ⟨q, rfl⟩
        have hq64 := par_lt hw hb hn (by omega) hq
        simp only [hq, oI]
        refine zJ_aload_n dX9_countChildren_31 rfl ?_
        refine zP_getr lf_X9_9 (zSt_ob hs 41 9 rfl) rfl (zSt_rf hs 41 1 42 rfl) dX9_countChildren_32 ?_
        refine zJ_iload dX9_countChildren_35 rfl ?_
        refine zJ_dup2 dX9_countChildren_37 rfl rfl ?_
        refine zP_iald (zSt_ar hs 42 64 rfl) (by first | assumption | with_reducible exact vp_in_nI (by omega) (by omega) | (simp (disch := omega) only [nI_add, pk_mul, pk_sub, pk_div, pk_rem, nI_clamp]; with_reducible exact vp_in_nI (by omega) (by omega))) dX9_countChildren_38 ?_
        refine zJ_iconst (v := nI 1) dX9_countChildren_39 rfl ?_
        refine zJ_iadd dX9_countChildren_40 ?_
        refine zP_iast (zSt_ar hs 42 64 rfl) (by first | assumption | with_reducible exact vp_in_nI (by omega) (by omega) | (simp (disch := omega) only [nI_add, pk_mul, pk_sub, pk_div, pk_rem, nI_clamp]; with_reducible exact vp_in_nI (by omega) (by omega))) dX9_countChildren_41 ?_
        refine zJ_iinc1 dX9_countChildren_42 rfl (by decide) ?_
        refine zJ_goto 10 dX9_countChildren_45 (by decide) ?_
        refine zJ_back (zle_r (zle_r (zle_r (zle_r (zle_n zle_0))))) ?_ (ih (p + 1) (by omega) (upd f q (f q + 1)) (fun j hj => ?_))
        · rw [nI_clamp (by omega)]
          refine congrArg (fun x => (x, g)) (funext fun b => ?_)
          by_cases hb2 : b = 42
          · subst hb2; simp [zup, va_up, nI1]
          · simp [zup, va_up, hb2]
        · by_cases hjq : j = q
          · subst hjq; simp [upd, chN, lp, hq, hI j hj]
          · simp [upd, chN, lp, hq, hjq, hI j hj]
  refine zJ_aload_n dX9_countChildren_0 rfl ?_
  refine zP_getr lf_X9_9 (zSt_ob hs 41 9 rfl) rfl (zSt_rf hs 41 1 42 rfl) dX9_countChildren_1 ?_
  refine zJ_iconst (v := nI 0) dX9_countChildren_4 rfl ?_
  refine zP_callSv [_, _] _ ls_X9_87 (k_fill (d := d - 1) hl (by omega) (zSt_ar hs 42 64 rfl) (by decide)) rfl (by omega) (Nat.le_of_ble_eq_true rfl) rfl dX9_countChildren_5 ?_
  refine zJ_iconst (v := nI 0) dX9_countChildren_8 rfl ?_
  refine zJ_istore_m 3 dX9_countChildren_9 rfl (Nat.le_of_ble_eq_true rfl) (by decide) ?_
  exact loop 64 0 (by omega) _ (fun q hq => by simp [fillR, hq, chN, lp, nI0])
end ZSurvey3
