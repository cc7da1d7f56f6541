/-! ===== Survey: leaves, forks, the late ===== -/
section ZSurvey4
variable {l : Launch} {Xi : zXi} {d : Nat} {I : zI} {g : zG}
theorem k_countChildren (hl : l.stackTraces = false) (hd : 2 ≤ d) (hs : zSt g) {s n : Nat} (hst : zK g s 8 zLt_State) (hns : s + 1 ≠ 42) (hw : wok (I (s + 1))) (hb : bok (I 11)) (hn : n < 6) : zEv l Xi mX9_countChildren d [.ref 41, .ref s, .int (nI n)] I g (fun I' => ∃ f, I' = va_up I 42 f ∧ ∀ p, p < 64 → f p = chN (I (s + 1)) (I 11) n 64 p) := by
  intro D cT ao ad sz
  refine vx_imp (k_X9_countChildren (Xi := Xi) hl hd hs hst hns hw hb hn D cT ao ad sz) (fun r h' q => ?_)
  obtain ⟨q1, f, q2, q3⟩ := q
  exact ⟨q1, _, q2, f, rfl, q3⟩
theorem k_X9_leavesOf (hl : l.stackTraces = false) (hd : 3 ≤ d) (hs : zSt g) {s n : Nat} (hst : zK g s 8 zLt_State) (hns : s + 1 ≠ 42) (hw : wok (I (s + 1))) (hb : bok (I 11)) (hn : n < 6) : zEi l Xi mX9_leavesOf d [.ref 41, .ref s, .int (nI n)] I g (fun x I' => x = cntF (fun p => tin (I (s + 1)) n p && decide (chN (I (s + 1)) (I 11) n 64 p = 0)) 64 ∧ ∃ f, I' = va_up I 42 f) := by
  refine zC_of hl rfl rfl rfl (Nat.le_of_ble_eq_true rfl) (zav_r (zSt_ob hs 41 9 rfl).1 (zav_r hst.1.1 (zav_i zav_0))) ?_
  have loop : ∀ m p, p + m = 64 → ∀ (f : Nat → Int32), (∀ q, q < 64 → f q = chN (I (s + 1)) (I 11) n 64 q) → zJ l Xi mX9_leavesOf d 0 0 11 [some (.ref 41), some (.ref s), some (.int (nI n)), some (.int (cntF (fun p => tin (I (s + 1)) n p && decide (chN (I (s + 1)) (I 11) n 64 p = 0)) p)), some (.int (nI p))] [] (va_up I 42 f, g) (fun r' h' => ∃ x I', r' = .inl (some (.int x)) ∧ h' = (I', g) ∧ x = cntF (fun p => tin (I (s + 1)) n p && decide (chN (I (s + 1)) (I 11) n 64 p = 0)) 64 ∧ ∃ f, I' = va_up I 42 f) := by
    intro m
    induction m with
    | zero =>
      intro p hp f hI
      obtain rfl : p = 64 := by omega
      refine zJ_iload dX9_leavesOf_11 rfl ?_
      refine zJ_bipush (v := nI 64) dX9_leavesOf_13 rfl ?_
      refine zJ_icmp_ge 52 dX9_leavesOf_15 (by decide) (fun _ => ?_) (fun c15 => absurd (nI_le (by omega) (by omega)) c15)
      refine zJ_iload_n dX9_leavesOf_52 rfl ?_
      refine zJ_iret rfl dX9_leavesOf_53 ?_
      exact ⟨_, _, rfl, rfl, rfl, f, rfl⟩
    | succ m ih =>
      intro p hp f hI
      have hf := hI p (by omega)
      refine zJ_iload dX9_leavesOf_11 rfl ?_
      refine zJ_bipush (v := nI 64) dX9_leavesOf_13 rfl ?_
      refine zJ_icmp_ge 52 dX9_leavesOf_15 (by decide) (fun c15 => absurd c15 (nI_ge (by omega) (by omega))) (fun _ => ?_)
      refine zJ_iload_n dX9_leavesOf_18 rfl ?_
      refine zJ_aload_n dX9_leavesOf_19 rfl ?_
      refine zJ_iload_n dX9_leavesOf_20 rfl ?_
      refine zJ_iload dX9_leavesOf_21 rfl ?_
      refine zP_callVi [_, _] _ lv_X9_33 (k_has (d := d - 1) hl (by omega) hst hn (by omega)) hst.1 rfl (by omega) (Nat.le_of_ble_eq_true rfl) rfl dX9_leavesOf_23 ?_
      rw [hasB_tin, va_up_row hns]
      refine zJ_if_eq 43 dX9_leavesOf_26 (by decide) (fun c26 => ?_) (fun c26 => ?_)
      · replace c26 := zb0.mp c26
        refine zJ_iconst (v := nI 0) dX9_leavesOf_43 rfl ?_
        refine zJ_iadd dX9_leavesOf_44 ?_
        refine zJ_istore_m 3 dX9_leavesOf_45 rfl (Nat.le_of_ble_eq_true rfl) (by decide) ?_
        refine zJ_iinc1 dX9_leavesOf_46 rfl (by decide) ?_
        refine zJ_goto 11 dX9_leavesOf_49 (by decide) ?_
        exact zJ_back (zle_r (zle_r (zle_i (by first | rfl | (simp [cntF_succ, nI0, nI1, *]; done)) (zle_i (by first | rfl | (simp [cntF_succ, nI0, nI1, *]; done)) (zle_i (by first | rfl | (simp [cntF_succ, nI0, nI1, *]; done)) zle_0))))) rfl (ih (p + 1) (by omega) f hI)
      · replace c26 := zb1.mp c26
        refine zJ_aload_n dX9_leavesOf_29 rfl ?_
        refine zP_getr lf_X9_9 (zSt_ob hs 41 9 rfl) rfl (zSt_rf hs 41 1 42 rfl) dX9_leavesOf_30 ?_
        refine zJ_iload dX9_leavesOf_33 rfl ?_
        refine zP_iald (zSt_ar hs 42 64 rfl) (by first | assumption | with_reducible exact vp_in_nI (by omega) (by omega) | (simp (disch := omega) only [nI_add, pk_mul, pk_sub, pk_div, pk_rem, nI_clamp]; with_reducible exact vp_in_nI (by omega) (by omega))) dX9_leavesOf_35 ?_
        rw [nI_clamp (by omega), va_up_same, hf]
        refine zJ_if_ne 43 dX9_leavesOf_36 (by decide) (fun c36 => ?_) (fun c36 => ?_)
        · skip
          refine zJ_iconst (v := nI 0) dX9_leavesOf_43 rfl ?_
          refine zJ_iadd dX9_leavesOf_44 ?_
          refine zJ_istore_m 3 dX9_leavesOf_45 rfl (Nat.le_of_ble_eq_true rfl) (by decide) ?_
          refine zJ_iinc1 dX9_leavesOf_46 rfl (by decide) ?_
          refine zJ_goto 11 dX9_leavesOf_49 (by decide) ?_
          exact zJ_back (zle_r (zle_r (zle_i (by first | rfl | (simp [cntF_succ, nI0, nI1, *]; done)) (zle_i (by first | rfl | (simp [cntF_succ, nI0, nI1, *]; done)) (zle_i (by first | rfl | (simp [cntF_succ, nI0, nI1, *]; done)) zle_0))))) rfl (ih (p + 1) (by omega) f hI)
        · skip
          refine zJ_iconst (v := nI 1) dX9_leavesOf_39 rfl ?_
          refine zJ_goto 44 dX9_leavesOf_40 (by decide) ?_
          refine zJ_iadd dX9_leavesOf_44 ?_
          refine zJ_istore_m 3 dX9_leavesOf_45 rfl (Nat.le_of_ble_eq_true rfl) (by decide) ?_
          refine zJ_iinc1 dX9_leavesOf_46 rfl (by decide) ?_
          refine zJ_goto 11 dX9_leavesOf_49 (by decide) ?_
          exact zJ_back (zle_r (zle_r (zle_i (by first | rfl | (simp [cntF_succ, nI0, nI1, *]; done)) (zle_i (by first | rfl | (simp [cntF_succ, nI0, nI1, *]; done)) (zle_i (by first | rfl | (simp [cntF_succ, nI0, nI1, *]; done)) zle_0))))) rfl (ih (p + 1) (by omega) f hI)
  refine zJ_aload_n dX9_leavesOf_0 rfl ?_
  refine zJ_aload_n dX9_leavesOf_1 rfl ?_
  refine zJ_iload_n dX9_leavesOf_2 rfl ?_
  refine zP_ecallVv [_, _] _ lv_X9_83 (k_countChildren (d := d - 1) hl (by omega) hs hst hns hw hb hn) (zSt_ob hs 41 9 rfl) rfl (by omega) (Nat.le_of_ble_eq_true rfl) rfl dX9_leavesOf_3 (fun I1 h1 => ?_)
  obtain ⟨f, rfl, hf⟩ := h1
  refine zJ_iconst (v := nI 0) dX9_leavesOf_6 rfl ?_
  refine zJ_istore_m 3 dX9_leavesOf_7 rfl (Nat.le_of_ble_eq_true rfl) (by decide) ?_
  refine zJ_iconst (v := nI 0) dX9_leavesOf_8 rfl ?_
  refine zJ_istore dX9_leavesOf_9 (Nat.le_of_ble_eq_true rfl) (by decide) ?_
  exact loop 64 0 (by omega) f hf
theorem k_X9_forksOf (hl : l.stackTraces = false) (hd : 3 ≤ d) (hs : zSt g) {s n : Nat} (hst : zK g s 8 zLt_State) (hns : s + 1 ≠ 42) (hw : wok (I (s + 1))) (hb : bok (I 11)) (hn : n < 6) : zEi l Xi mX9_forksOf d [.ref 41, .ref s, .int (nI n)] I g (fun x I' => x = cntF (fun p => decide (¬ chN (I (s + 1)) (I 11) n 64 p < nI 2)) 64 ∧ ∃ f, I' = va_up I 42 f) := by
  refine zC_of hl rfl rfl rfl (Nat.le_of_ble_eq_true rfl) (zav_r (zSt_ob hs 41 9 rfl).1 (zav_r hst.1.1 (zav_i zav_0))) ?_
  have loop : ∀ m p, p + m = 64 → ∀ (f : Nat → Int32), (∀ q, q < 64 → f q = chN (I (s + 1)) (I 11) n 64 q) → zJ l Xi mX9_forksOf d 0 0 11 [some (.ref 41), some (.ref s), some (.int (nI n)), some (.int (cntF (fun p => decide (¬ chN (I (s + 1)) (I 11) n 64 p < nI 2)) p)), some (.int (nI p))] [] (va_up I 42 f, g) (fun r' h' => ∃ x I', r' = .inl (some (.int x)) ∧ h' = (I', g) ∧ x = cntF (fun p => decide (¬ chN (I (s + 1)) (I 11) n 64 p < nI 2)) 64 ∧ ∃ f, I' = va_up I 42 f) := by
    intro m
    induction m with
    | zero =>
      intro p hp f hI
      obtain rfl : p = 64 := by omega
      refine zJ_iload dX9_forksOf_11 rfl ?_
      refine zJ_bipush (v := nI 64) dX9_forksOf_13 rfl ?_
      refine zJ_icmp_ge 43 dX9_forksOf_15 (by decide) (fun _ => ?_) (fun c15 => absurd (nI_le (by omega) (by omega)) c15)
      refine zJ_iload_n dX9_forksOf_43 rfl ?_
      refine zJ_iret rfl dX9_forksOf_44 ?_
      exact ⟨_, _, rfl, rfl, rfl, f, rfl⟩
    | succ m ih =>
      intro p hp f hI
      have hf := hI p (by omega)
      refine zJ_iload dX9_forksOf_11 rfl ?_
      refine zJ_bipush (v := nI 64) dX9_forksOf_13 rfl ?_
      refine zJ_icmp_ge 43 dX9_forksOf_15 (by decide) (fun c15 => absurd c15 (nI_ge (by omega) (by omega))) (fun _ => ?_)
      refine zJ_iload_n dX9_forksOf_18 rfl ?_
      refine zJ_aload_n dX9_forksOf_19 rfl ?_
      refine zP_getr lf_X9_9 (zSt_ob hs 41 9 rfl) rfl (zSt_rf hs 41 1 42 rfl) dX9_forksOf_20 ?_
      refine zJ_iload dX9_forksOf_23 rfl ?_
      refine zP_iald (zSt_ar hs 42 64 rfl) (by first | assumption | with_reducible exact vp_in_nI (by omega) (by omega) | (simp (disch := omega) only [nI_add, pk_mul, pk_sub, pk_div, pk_rem, nI_clamp]; with_reducible exact vp_in_nI (by omega) (by omega))) dX9_forksOf_25 ?_
      rw [nI_clamp (by omega), va_up_same, hf]
      refine zJ_iconst (v := nI 2) dX9_forksOf_26 rfl ?_
      refine zJ_icmp_lt 34 dX9_forksOf_27 (by decide) (fun c27 => ?_) (fun c27 => ?_)
      · skip
        refine zJ_iconst (v := nI 0) dX9_forksOf_34 rfl ?_
        refine zJ_iadd dX9_forksOf_35 ?_
        refine zJ_istore_m 3 dX9_forksOf_36 rfl (Nat.le_of_ble_eq_true rfl) (by decide) ?_
        refine zJ_iinc1 dX9_forksOf_37 rfl (by decide) ?_
        refine zJ_goto 11 dX9_forksOf_40 (by decide) ?_
        exact zJ_back (zle_r (zle_r (zle_i (by first | rfl | (simp [cntF_succ, nI0, nI1, *]; done)) (zle_i (by first | rfl | (simp [cntF_succ, nI0, nI1, *]; done)) (zle_i (by first | rfl | (simp [cntF_succ, nI0, nI1, *]; done)) zle_0))))) rfl (ih (p + 1) (by omega) f hI)
      · skip
        refine zJ_iconst (v := nI 1) dX9_forksOf_30 rfl ?_
        refine zJ_goto 35 dX9_forksOf_31 (by decide) ?_
        refine zJ_iadd dX9_forksOf_35 ?_
        refine zJ_istore_m 3 dX9_forksOf_36 rfl (Nat.le_of_ble_eq_true rfl) (by decide) ?_
        refine zJ_iinc1 dX9_forksOf_37 rfl (by decide) ?_
        refine zJ_goto 11 dX9_forksOf_40 (by decide) ?_
        exact zJ_back (zle_r (zle_r (zle_i (by first | rfl | (simp [cntF_succ, nI0, nI1, *]; done)) (zle_i (by first | rfl | (simp [cntF_succ, nI0, nI1, *]; done)) (zle_i (by first | rfl | (simp [cntF_succ, nI0, nI1, *]; done)) zle_0))))) rfl (ih (p + 1) (by omega) f hI)
  refine zJ_aload_n dX9_forksOf_0 rfl ?_
  refine zJ_aload_n dX9_forksOf_1 rfl ?_
  refine zJ_iload_n dX9_forksOf_2 rfl ?_
  refine zP_ecallVv [_, _] _ lv_X9_83 (k_countChildren (d := d - 1) hl (by omega) hs hst hns hw hb hn) (zSt_ob hs 41 9 rfl) rfl (by omega) (Nat.le_of_ble_eq_true rfl) rfl dX9_forksOf_3 (fun I1 h1 => ?_)
  obtain ⟨f, rfl, hf⟩ := h1
  refine zJ_iconst (v := nI 0) dX9_forksOf_6 rfl ?_
  refine zJ_istore_m 3 dX9_forksOf_7 rfl (Nat.le_of_ble_eq_true rfl) (by decide) ?_
  refine zJ_iconst (v := nI 0) dX9_forksOf_8 rfl ?_
  refine zJ_istore dX9_forksOf_9 (Nat.le_of_ble_eq_true rfl) (by decide) ?_
  exact loop 64 0 (by omega) f hf
def dly (w bs : Nat → Int32) (pc : Nat → Nat) (pn : Nat → Nat → Nat) (n : Nat) : Int32 := maxI (fun i => nI (stR w bs n (pn n i))) (pc n)
def lateB (w bs lim : Nat → Int32) (pc : Nat → Nat) (pn : Nat → Nat → Nat) (n : Nat) : Bool := !(jnd w pc pn n) || decide (¬ dly w bs pc pn n ≤ lim n)
theorem k_X9_lateBits (hl : l.stackTraces = false) (hd : 4 ≤ d) (hs : zSt g) {s C R N : Nat} {pc : Nat → Nat} {pn : Nat → Nat → Nat} (hbd : zBd I 3 C R N pc pn) (hst : zK g s 8 zLt_State) (hw : wok (I (s + 1))) (hb : bok (I 11)) : zD l Xi mX9_lateBits d [.ref 41, .ref s] I g (some (.int (bitF (lateB (I (s + 1)) (I 11) (I 5) pc pn) N))) I := by
  refine zC_of hl rfl rfl rfl (Nat.le_of_ble_eq_true rfl) (zav_r (zSt_ob hs 41 9 rfl).1 (zav_r hst.1.1 zav_0)) ?_
  have hN := hbd.2.2.1
  have hN6 := hbd.2.2.2.2.2.1
  have loop : ∀ m p, p + m = N → zJ l Xi mX9_lateBits d 0 0 4 [some (.ref 41), some (.ref s), some (.int (bitF (lateB (I (s + 1)) (I 11) (I 5) pc pn) p)), some (.int (nI p)), none] [] (I, g) (fun r' h' => r' = .inl (some (.int (bitF (lateB (I (s + 1)) (I 11) (I 5) pc pn) N))) ∧ h' = (I, g)) := by
    intro m
    induction m with
    | zero =>
      intro p hp
      obtain rfl : p = N := by omega
      refine zJ_iload_n dX9_lateBits_4 rfl ?_
      refine zJ_aload_n dX9_lateBits_5 rfl ?_
      refine zP_getr lf_X9_15 (zSt_ob hs 41 9 rfl) rfl (zSt_rf hs 41 0 3 rfl) dX9_lateBits_6 ?_
      refine zP_geti lf_X9_43 (zSt_ob hs 3 0 rfl) rfl dX9_lateBits_9 ?_
      refine zJ_icmp_ge 70 dX9_lateBits_12 (by decide) (fun _ => ?_) (fun c12 => absurd (by rw [hN]; exact nI_le (by omega) (by omega)) c12)
      refine zJ_iload_n dX9_lateBits_70 rfl ?_
      refine zJ_iret rfl dX9_lateBits_71 ?_
      exact ⟨rfl, rfl⟩
    | succ m ih =>
      intro p hp
      refine zJ_iload_n dX9_lateBits_4 rfl ?_
      refine zJ_aload_n dX9_lateBits_5 rfl ?_
      refine zP_getr lf_X9_15 (zSt_ob hs 41 9 rfl) rfl (zSt_rf hs 41 0 3 rfl) dX9_lateBits_6 ?_
      refine zP_geti lf_X9_43 (zSt_ob hs 3 0 rfl) rfl dX9_lateBits_9 ?_
      refine zJ_icmp_ge 70 dX9_lateBits_12 (by decide) (fun c12 => absurd c12 (by rw [hN]; exact nI_ge (by omega) (by omega))) (fun _ => ?_)
      refine zJ_aload_n dX9_lateBits_15 rfl ?_
      refine zJ_aload_n dX9_lateBits_16 rfl ?_
      refine zJ_iload_n dX9_lateBits_17 rfl ?_
      refine zP_callVi [_, _] _ lv_X9_47 (k_X9_isJoined (d := d - 1) hl (by omega) hs hbd hst (by omega)) (zSt_ob hs 41 9 rfl) rfl (by omega) (Nat.le_of_ble_eq_true rfl) rfl dX9_lateBits_18 ?_
      refine zJ_if_eq 42 dX9_lateBits_21 (by decide) (fun c21 => ?_) (fun c21 => ?_)
      · replace c21 := zb0.mp c21
        refine zJ_iconst (v := nI 1) dX9_lateBits_42 rfl ?_
        refine zJ_goto 47 dX9_lateBits_43 (by decide) ?_
        refine zJ_istore dX9_lateBits_47 (Nat.le_of_ble_eq_true rfl) (by decide) ?_
        refine zJ_iload_n dX9_lateBits_49 rfl ?_
        refine zJ_iload dX9_lateBits_50 rfl ?_
        refine zJ_if_eq 61 dX9_lateBits_52 (by decide) (fun c52 => ?_) (fun c52 => ?_)
        · skip
          refine zJ_iconst (v := nI 0) dX9_lateBits_61 rfl ?_
          refine zJ_ior dX9_lateBits_62 ?_
          refine zJ_istore_m 2 dX9_lateBits_63 rfl (Nat.le_of_ble_eq_true rfl) (by decide) ?_
          refine zJ_iinc1 dX9_lateBits_64 rfl (by decide) ?_
          refine zJ_goto 4 dX9_lateBits_67 (by decide) ?_
          exact absurd c52 (by decide)
        · skip
          refine zJ_iconst (v := nI 1) dX9_lateBits_55 rfl ?_
          refine zJ_iload_n dX9_lateBits_56 rfl ?_
          refine zJ_ishl dX9_lateBits_57 ?_
          refine zJ_goto 62 dX9_lateBits_58 (by decide) ?_
          refine zJ_ior dX9_lateBits_62 ?_
          refine zJ_istore_m 2 dX9_lateBits_63 rfl (Nat.le_of_ble_eq_true rfl) (by decide) ?_
          refine zJ_iinc1 dX9_lateBits_64 rfl (by decide) ?_
          refine zJ_goto 4 dX9_lateBits_67 (by decide) ?_
          exact zJ_back (zle_r (zle_r (zle_i (by simp [bitF_succ, lateB, c21]) (zle_r (zle_n zle_0))))) rfl (ih (p + 1) (by omega))
      · replace c21 := zb1.mp c21
        refine zJ_aload_n dX9_lateBits_24 rfl ?_
        refine zJ_aload_n dX9_lateBits_25 rfl ?_
        refine zJ_iload_n dX9_lateBits_26 rfl ?_
        refine zP_callVi [_, _] _ lv_X9_58 (k_X9_delayOf (d := d - 1) hl (by omega) hs hbd hst hw hb (by omega)) (zSt_ob hs 41 9 rfl) rfl (by omega) (Nat.le_of_ble_eq_true rfl) rfl dX9_lateBits_27 ?_
        refine zJ_aload_n dX9_lateBits_30 rfl ?_
        refine zP_getr lf_X9_15 (zSt_ob hs 41 9 rfl) rfl (zSt_rf hs 41 0 3 rfl) dX9_lateBits_31 ?_
        refine zP_getr lf_X9_61 (zSt_ob hs 3 0 rfl) rfl (zSt_rf hs 3 5 5 rfl) dX9_lateBits_34 ?_
        refine zJ_iload_n dX9_lateBits_37 rfl ?_
        refine zP_iald (zSt_ar hs 5 6 rfl) (by first | assumption | with_reducible exact vp_in_nI (by omega) (by omega) | (simp (disch := omega) only [nI_add, pk_mul, pk_sub, pk_div, pk_rem, nI_clamp]; with_reducible exact vp_in_nI (by omega) (by omega))) dX9_lateBits_38 ?_
        rw [nI_clamp (by omega)]
        refine zJ_icmp_le 46 dX9_lateBits_39 (by decide) (fun c39 => ?_) (fun c39 => ?_)
        · skip
          refine zJ_iconst (v := nI 0) dX9_lateBits_46 rfl ?_
          refine zJ_istore dX9_lateBits_47 (Nat.le_of_ble_eq_true rfl) (by decide) ?_
          refine zJ_iload_n dX9_lateBits_49 rfl ?_
          refine zJ_iload dX9_lateBits_50 rfl ?_
          refine zJ_if_eq 61 dX9_lateBits_52 (by decide) (fun c52 => ?_) (fun c52 => ?_)
          · skip
            refine zJ_iconst (v := nI 0) dX9_lateBits_61 rfl ?_
            refine zJ_ior dX9_lateBits_62 ?_
            refine zJ_istore_m 2 dX9_lateBits_63 rfl (Nat.le_of_ble_eq_true rfl) (by decide) ?_
            refine zJ_iinc1 dX9_lateBits_64 rfl (by decide) ?_
            refine zJ_goto 4 dX9_lateBits_67 (by decide) ?_
            exact zJ_back (zle_r (zle_r (zle_i (by simp [bitF_succ, lateB, dly, c21, c39, nI0]) (zle_r (zle_n zle_0))))) rfl (ih (p + 1) (by omega))
          · skip
            refine zJ_iconst (v := nI 1) dX9_lateBits_55 rfl ?_
            refine zJ_iload_n dX9_lateBits_56 rfl ?_
            refine zJ_ishl dX9_lateBits_57 ?_
            refine zJ_goto 62 dX9_lateBits_58 (by decide) ?_
            refine zJ_ior dX9_lateBits_62 ?_
            refine zJ_istore_m 2 dX9_lateBits_63 rfl (Nat.le_of_ble_eq_true rfl) (by decide) ?_
            refine zJ_iinc1 dX9_lateBits_64 rfl (by decide) ?_
            refine zJ_goto 4 dX9_lateBits_67 (by decide) ?_
            exact absurd rfl c52
        · skip
          refine zJ_iconst (v := nI 1) dX9_lateBits_42 rfl ?_
          refine zJ_goto 47 dX9_lateBits_43 (by decide) ?_
          refine zJ_istore dX9_lateBits_47 (Nat.le_of_ble_eq_true rfl) (by decide) ?_
          refine zJ_iload_n dX9_lateBits_49 rfl ?_
          refine zJ_iload dX9_lateBits_50 rfl ?_
          refine zJ_if_eq 61 dX9_lateBits_52 (by decide) (fun c52 => ?_) (fun c52 => ?_)
          · skip
            refine zJ_iconst (v := nI 0) dX9_lateBits_61 rfl ?_
            refine zJ_ior dX9_lateBits_62 ?_
            refine zJ_istore_m 2 dX9_lateBits_63 rfl (Nat.le_of_ble_eq_true rfl) (by decide) ?_
            refine zJ_iinc1 dX9_lateBits_64 rfl (by decide) ?_
            refine zJ_goto 4 dX9_lateBits_67 (by decide) ?_
            exact absurd c52 (by decide)
          · skip
            refine zJ_iconst (v := nI 1) dX9_lateBits_55 rfl ?_
            refine zJ_iload_n dX9_lateBits_56 rfl ?_
            refine zJ_ishl dX9_lateBits_57 ?_
            refine zJ_goto 62 dX9_lateBits_58 (by decide) ?_
            refine zJ_ior dX9_lateBits_62 ?_
            refine zJ_istore_m 2 dX9_lateBits_63 rfl (Nat.le_of_ble_eq_true rfl) (by decide) ?_
            refine zJ_iinc1 dX9_lateBits_64 rfl (by decide) ?_
            refine zJ_goto 4 dX9_lateBits_67 (by decide) ?_
            exact zJ_back (zle_r (zle_r (zle_i (by simp [bitF_succ, lateB, dly, c21, c39]) (zle_r (zle_n zle_0))))) rfl (ih (p + 1) (by omega))
  refine zJ_iconst (v := nI 0) dX9_lateBits_0 rfl ?_
  refine zJ_istore_m 2 dX9_lateBits_1 rfl (Nat.le_of_ble_eq_true rfl) (by decide) ?_
  refine zJ_iconst (v := nI 0) dX9_lateBits_2 rfl ?_
  refine zJ_istore_m 3 dX9_lateBits_3 rfl (Nat.le_of_ble_eq_true rfl) (by decide) ?_
  exact loop N 0 (by omega)
end ZSurvey4
