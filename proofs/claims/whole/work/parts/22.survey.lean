/-! ===== Survey: what can be read off a board and a state ===== -/
/-- the board at b (3 or 12): columns, rows, nets, pins -/
def zBd (I : zI) (b C R N : Nat) (pc : Nat → Nat) (pn : Nat → Nat → Nat) : Prop := I b 0 = nI C ∧ I b 1 = nI R ∧ I b 2 = nI N ∧ C ≤ 8 ∧ R ≤ 8 ∧ N ≤ 6 ∧ (∀ n, n < 6 → I (b + 3) n = nI (pc n) ∧ pc n ≤ 4) ∧ ∀ n i, n < 6 → i < pc n → I (b + 4) (n * 4 + i) = nI (pn n i) ∧ pn n i < 64
def allB (f : Nat → Bool) : Nat → Bool
  | 0 => true
  | k + 1 => allB f k && f k
theorem allB_no {f : Nat → Bool} {i : Nat} : ∀ {n : Nat}, i < n → f i = false → allB f n = false
  | n + 1, h, hf => by
    by_cases e : i = n
    · subst e; simp [allB, hf]
    · simp [allB, allB_no (show i < n by omega) hf]
theorem allB_iff {f : Nat → Bool} : ∀ {n : Nat}, allB f n = true ↔ ∀ i, i < n → f i = true
  | 0 => by simp [allB]
  | n + 1 => by
    rw [allB, Bool.and_eq_true, allB_iff]
    constructor
    · rintro ⟨h1, h2⟩ i hi
      by_cases e : i = n
      · subst e; exact h2
      · exact h1 i (by omega)
    · intro h
      exact ⟨fun i hi => h i (by omega), h n (by omega)⟩
def ovr (u w : Nat → Int32) (p : Nat) : Int32 := if u p - w p ≤ 0 then 0 else u p - w p
def ovB (u w : Nat → Int32) (p : Nat) : Bool := decide (0 < u p - w p)
theorem ovr_le {u w : Nat → Int32} {p : Nat} : ovr u w p ≤ 0 ↔ ovB u w p = false := by
  unfold ovr ovB
  by_cases h : u p - w p ≤ 0
  · simp [h, Int32.not_lt.mpr h]
  · simp [h, Int32.not_le.mp h]
theorem ovr_nle {u w : Nat → Int32} {p : Nat} : (¬ ovr u w p ≤ 0) ↔ ovB u w p = true := by
  rw [ovr_le]; simp
def jnd (w : Nat → Int32) (pc : Nat → Nat) (pn : Nat → Nat → Nat) (n : Nat) : Bool := allB (fun i => tin w n (pn n i)) (pc n)
def bitF (f : Nat → Bool) : Nat → Int32 := lp (fun n a => a ||| if f n then nI 1 <<< (nI n &&& 31) else 0) 0
def sumF (f : Nat → Int32) : Nat → Int32 := lp (fun p a => a + f p) 0
section ZSurvey2
variable {l : Launch} {Xi : zXi} {d : Nat} {I : zI} {g : zG}
theorem k_X9_overAt (hl : l.stackTraces = false) (hd : 1 ≤ d) (hs : zSt g) {s p : Nat} (hst : zK g s 8 zLt_State) (hp : p < 64) : zD l Xi mX9_overAt d [.ref 41, .ref s, .int (nI p)] I g (some (.int (ovr (I (s + 2)) (I 9) p))) I := by
  refine zC_of hl rfl rfl rfl (Nat.le_of_ble_eq_true rfl) (zav_r (zSt_ob hs 41 9 rfl).1 (zav_r hst.1.1 (zav_i zav_0))) ?_
  refine zJ_aload_n dX9_overAt_0 rfl ?_
  refine zP_getr lf_X9_19 hst.1 rfl (zK_rf hst 1 1 2 64 rfl) dX9_overAt_1 ?_
  refine zJ_iload_n dX9_overAt_4 rfl ?_
  refine zP_iald (zK_ar hst 1 1 2 64 rfl) (by first | assumption | with_reducible exact vp_in_nI (by omega) (by omega) | (simp (disch := omega) only [nI_add, pk_mul, pk_sub, pk_div, pk_rem, nI_clamp]; with_reducible exact vp_in_nI (by omega) (by omega))) dX9_overAt_5 ?_
  refine zJ_aload_n dX9_overAt_6 rfl ?_
  refine zP_getr lf_X9_15 (zSt_ob hs 41 9 rfl) rfl (zSt_rf hs 41 0 3 rfl) dX9_overAt_7 ?_
  refine zP_getr lf_X9_24 (zSt_ob hs 3 0 rfl) rfl (zSt_rf hs 3 9 9 rfl) dX9_overAt_10 ?_
  refine zJ_iload_n dX9_overAt_13 rfl ?_
  refine zP_iald (zSt_ar hs 9 64 rfl) (by first | assumption | with_reducible exact vp_in_nI (by omega) (by omega) | (simp (disch := omega) only [nI_add, pk_mul, pk_sub, pk_div, pk_rem, nI_clamp]; with_reducible exact vp_in_nI (by omega) (by omega))) dX9_overAt_14 ?_
  refine zJ_isub dX9_overAt_15 ?_
  refine zJ_istore_m 3 dX9_overAt_16 rfl (Nat.le_of_ble_eq_true rfl) (by decide) ?_
  refine zJ_iload_n dX9_overAt_17 rfl ?_
  refine zJ_if_le 25 dX9_overAt_18 (by decide) (fun c18 => ?_) (fun c18 => ?_)
  · skip
    refine zJ_iconst (v := nI 0) dX9_overAt_25 rfl ?_
    refine zJ_iret rfl dX9_overAt_26 ?_
    rw [nI_clamp (by omega)] at c18
    exact ⟨by simp [ovr, c18, nI0], rfl⟩
  · skip
    refine zJ_iload_n dX9_overAt_21 rfl ?_
    refine zJ_goto 26 dX9_overAt_22 (by decide) ?_
    refine zJ_iret rfl dX9_overAt_26 ?_
    rw [nI_clamp (by omega)] at c18 ⊢
    exact ⟨by simp [ovr, c18], rfl⟩
theorem k_X9_overPlaces (hl : l.stackTraces = false) (hd : 2 ≤ d) (hs : zSt g) {s : Nat} (hst : zK g s 8 zLt_State) : zD l Xi mX9_overPlaces d [.ref 41, .ref s] I g (some (.int (cntF (ovB (I (s + 2)) (I 9)) 64))) I := by
  refine zC_of hl rfl rfl rfl (Nat.le_of_ble_eq_true rfl) (zav_r (zSt_ob hs 41 9 rfl).1 (zav_r hst.1.1 zav_0)) ?_
  have loop : ∀ m p, p + m = 64 → zJ l Xi mX9_overPlaces d 0 0 4 [some (.ref 41), some (.ref s), some (.int (cntF (ovB (I (s + 2)) (I 9)) p)), some (.int (nI p))] [] (I, g) (fun r' h' => r' = .inl (some (.int (cntF (ovB (I (s + 2)) (I 9)) 64))) ∧ h' = (I, g)) := by
    intro m
    induction m with
    | zero =>
      intro p hp
      obtain rfl : p = 64 := by omega
      refine zJ_iload_n dX9_overPlaces_4 rfl ?_
      refine zJ_bipush (v := nI 64) dX9_overPlaces_5 rfl ?_
      refine zJ_icmp_ge 33 dX9_overPlaces_7 (by decide) (fun _ => ?_) (fun c7 => absurd (nI_le (by omega) (by omega)) c7)
      refine zJ_iload_n dX9_overPlaces_33 rfl ?_
      refine zJ_iret rfl dX9_overPlaces_34 ?_
      exact ⟨rfl, rfl⟩
    | succ m ih =>
      intro p hp
      refine zJ_iload_n dX9_overPlaces_4 rfl ?_
      refine zJ_bipush (v := nI 64) dX9_overPlaces_5 rfl ?_
      refine zJ_icmp_ge 33 dX9_overPlaces_7 (by decide) (fun c7 => absurd c7 (nI_ge (by omega) (by omega))) (fun _ => ?_)
      refine zJ_iload_n dX9_overPlaces_10 rfl ?_
      refine zJ_aload_n dX9_overPlaces_11 rfl ?_
      refine zJ_aload_n dX9_overPlaces_12 rfl ?_
      refine zJ_iload_n dX9_overPlaces_13 rfl ?_
      refine zP_callVi [_, _] _ lv_X9_29 (k_X9_overAt (d := d - 1) hl (by omega) hs hst (by omega)) (zSt_ob hs 41 9 rfl) rfl (by omega) (Nat.le_of_ble_eq_true rfl) rfl dX9_overPlaces_14 ?_
      refine zJ_if_le 24 dX9_overPlaces_17 (by decide) (fun c17 => ?_) (fun c17 => ?_)
      · skip
        refine zJ_iconst (v := nI 0) dX9_overPlaces_24 rfl ?_
        refine zJ_iadd dX9_overPlaces_25 ?_
        refine zJ_istore_m 2 dX9_overPlaces_26 rfl (Nat.le_of_ble_eq_true rfl) (by decide) ?_
        refine zJ_iinc1 dX9_overPlaces_27 rfl (by decide) ?_
        refine zJ_goto 4 dX9_overPlaces_30 (by decide) ?_
        refine zJ_eq ?_ rfl rfl (ih (p + 1) (by omega))
        simp [cntF, lp, ovr_le.mp c17, nI0]
      · skip
        refine zJ_iconst (v := nI 1) dX9_overPlaces_20 rfl ?_
        refine zJ_goto 25 dX9_overPlaces_21 (by decide) ?_
        refine zJ_iadd dX9_overPlaces_25 ?_
        refine zJ_istore_m 2 dX9_overPlaces_26 rfl (Nat.le_of_ble_eq_true rfl) (by decide) ?_
        refine zJ_iinc1 dX9_overPlaces_27 rfl (by decide) ?_
        refine zJ_goto 4 dX9_overPlaces_30 (by decide) ?_
        refine zJ_eq ?_ rfl rfl (ih (p + 1) (by omega))
        simp [cntF, lp, ovr_nle.mp c17, nI1]
  refine zJ_iconst (v := nI 0) dX9_overPlaces_0 rfl ?_
  refine zJ_istore_m 2 dX9_overPlaces_1 rfl (Nat.le_of_ble_eq_true rfl) (by decide) ?_
  refine zJ_iconst (v := nI 0) dX9_overPlaces_2 rfl ?_
  refine zJ_istore_m 3 dX9_overPlaces_3 rfl (Nat.le_of_ble_eq_true rfl) (by decide) ?_
  exact loop 64 0 (by omega)
theorem k_X9_overPlacesOf (hl : l.stackTraces = false) (hd : 2 ≤ d) (hs : zSt g) {s n : Nat} (hst : zK g s 8 zLt_State) (hn : n < 6) : zD l Xi mX9_overPlacesOf d [.ref 41, .ref s, .int (nI n)] I g (some (.int (cntF (fun p => tin (I (s + 1)) n p && ovB (I (s + 2)) (I 9) p) 64))) I := by
  refine zC_of hl rfl rfl rfl (Nat.le_of_ble_eq_true rfl) (zav_r (zSt_ob hs 41 9 rfl).1 (zav_r hst.1.1 (zav_i zav_0))) ?_
  have loop : ∀ m p, p + m = 64 → zJ l Xi mX9_overPlacesOf d 0 0 5 [some (.ref 41), some (.ref s), some (.int (nI n)), some (.int (cntF (fun p => tin (I (s + 1)) n p && ovB (I (s + 2)) (I 9) p) p)), some (.int (nI p))] [] (I, g) (fun r' h' => r' = .inl (some (.int (cntF (fun p => tin (I (s + 1)) n p && ovB (I (s + 2)) (I 9) p) 64))) ∧ h' = (I, g)) := by
    intro m
    induction m with
    | zero =>
      intro p hp
      obtain rfl : p = 64 := by omega
      refine zJ_iload dX9_overPlacesOf_5 rfl ?_
      refine zJ_bipush (v := nI 64) dX9_overPlacesOf_7 rfl ?_
      refine zJ_icmp_ge 46 dX9_overPlacesOf_9 (by decide) (fun _ => ?_) (fun c9 => absurd (nI_le (by omega) (by omega)) c9)
      refine zJ_iload_n dX9_overPlacesOf_46 rfl ?_
      refine zJ_iret rfl dX9_overPlacesOf_47 ?_
      exact ⟨rfl, rfl⟩
    | succ m ih =>
      intro p hp
      refine zJ_iload dX9_overPlacesOf_5 rfl ?_
      refine zJ_bipush (v := nI 64) dX9_overPlacesOf_7 rfl ?_
      refine zJ_icmp_ge 46 dX9_overPlacesOf_9 (by decide) (fun c9 => absurd c9 (nI_ge (by omega) (by omega))) (fun _ => ?_)
      refine zJ_iload_n dX9_overPlacesOf_12 rfl ?_
      refine zJ_aload_n dX9_overPlacesOf_13 rfl ?_
      refine zJ_iload_n dX9_overPlacesOf_14 rfl ?_
      refine zJ_iload dX9_overPlacesOf_15 rfl ?_
      refine zP_callVi [_, _] _ lv_X9_33 (k_has (d := d - 1) hl (by omega) hst hn (by omega)) hst.1 rfl (by omega) (Nat.le_of_ble_eq_true rfl) rfl dX9_overPlacesOf_17 ?_
      refine zJ_if_eq 37 dX9_overPlacesOf_20 (by decide) (fun c20 => ?_) (fun c20 => ?_)
      · replace c20 := zb0.mp c20
        refine zJ_iconst (v := nI 0) dX9_overPlacesOf_37 rfl ?_
        refine zJ_iadd dX9_overPlacesOf_38 ?_
        refine zJ_istore_m 3 dX9_overPlacesOf_39 rfl (Nat.le_of_ble_eq_true rfl) (by decide) ?_
        refine zJ_iinc1 dX9_overPlacesOf_40 rfl (by decide) ?_
        refine zJ_goto 5 dX9_overPlacesOf_43 (by decide) ?_
        refine zJ_eq ?_ rfl rfl (ih (p + 1) (by omega))
        rw [hasB_tin] at c20
        simp [cntF, lp, c20, nI0]
      · replace c20 := zb1.mp c20
        refine zJ_aload_n dX9_overPlacesOf_23 rfl ?_
        refine zJ_aload_n dX9_overPlacesOf_24 rfl ?_
        refine zJ_iload dX9_overPlacesOf_25 rfl ?_
        refine zP_callVi [_, _] _ lv_X9_29 (k_X9_overAt (d := d - 1) hl (by omega) hs hst (by omega)) (zSt_ob hs 41 9 rfl) rfl (by omega) (Nat.le_of_ble_eq_true rfl) rfl dX9_overPlacesOf_27 ?_
        refine zJ_if_le 37 dX9_overPlacesOf_30 (by decide) (fun c30 => ?_) (fun c30 => ?_)
        · skip
          refine zJ_iconst (v := nI 0) dX9_overPlacesOf_37 rfl ?_
          refine zJ_iadd dX9_overPlacesOf_38 ?_
          refine zJ_istore_m 3 dX9_overPlacesOf_39 rfl (Nat.le_of_ble_eq_true rfl) (by decide) ?_
          refine zJ_iinc1 dX9_overPlacesOf_40 rfl (by decide) ?_
          refine zJ_goto 5 dX9_overPlacesOf_43 (by decide) ?_
          refine zJ_eq ?_ rfl rfl (ih (p + 1) (by omega))
          simp [cntF, lp, ovr_le.mp c30, nI0]
        · skip
          refine zJ_iconst (v := nI 1) dX9_overPlacesOf_33 rfl ?_
          refine zJ_goto 38 dX9_overPlacesOf_34 (by decide) ?_
          refine zJ_iadd dX9_overPlacesOf_38 ?_
          refine zJ_istore_m 3 dX9_overPlacesOf_39 rfl (Nat.le_of_ble_eq_true rfl) (by decide) ?_
          refine zJ_iinc1 dX9_overPlacesOf_40 rfl (by decide) ?_
          refine zJ_goto 5 dX9_overPlacesOf_43 (by decide) ?_
          refine zJ_eq ?_ rfl rfl (ih (p + 1) (by omega))
          rw [hasB_tin] at c20
          simp [cntF, lp, c20, ovr_nle.mp c30, nI1]
  refine zJ_iconst (v := nI 0) dX9_overPlacesOf_0 rfl ?_
  refine zJ_istore_m 3 dX9_overPlacesOf_1 rfl (Nat.le_of_ble_eq_true rfl) (by decide) ?_
  refine zJ_iconst (v := nI 0) dX9_overPlacesOf_2 rfl ?_
  refine zJ_istore dX9_overPlacesOf_3 (Nat.le_of_ble_eq_true rfl) (by decide) ?_
  exact loop 64 0 (by omega)
theorem k_X9_isJoined (hl : l.stackTraces = false) (hd : 2 ≤ d) (hs : zSt g) {s n C R N : Nat} {pc : Nat → Nat} {pn : Nat → Nat → Nat} (hbd : zBd I 3 C R N pc pn) (hst : zK g s 8 zLt_State) (hn : n < 6) : zD l Xi mX9_isJoined d [.ref 41, .ref s, .int (nI n)] I g (some (.int (if jnd (I (s + 1)) pc pn n then 1 else 0))) I := by
  refine zC_of hl rfl rfl rfl (Nat.le_of_ble_eq_true rfl) (zav_r (zSt_ob hs 41 9 rfl).1 (zav_r hst.1.1 (zav_i zav_0))) ?_
  have hpc := (hbd.2.2.2.2.2.2.1 n hn).1
  have hpc4 := (hbd.2.2.2.2.2.2.1 n hn).2
  have loop : ∀ m p, p + m = pc n → allB (fun i => tin (I (s + 1)) n (pn n i)) p = true → zJ l Xi mX9_isJoined d 0 0 2 [some (.ref 41), some (.ref s), some (.int (nI n)), some (.int (nI p))] [] (I, g) (fun r' h' => r' = .inl (some (.int (if jnd (I (s + 1)) pc pn n then 1 else 0))) ∧ h' = (I, g)) := by
    intro m
    induction m with
    | zero =>
      intro p hp hI
      obtain rfl : p = pc n := by omega
      refine zJ_iload_n dX9_isJoined_2 rfl ?_
      refine zJ_aload_n dX9_isJoined_3 rfl ?_
      refine zP_getr lf_X9_15 (zSt_ob hs 41 9 rfl) rfl (zSt_rf hs 41 0 3 rfl) dX9_isJoined_4 ?_
      refine zP_getr lf_X9_37 (zSt_ob hs 3 0 rfl) rfl (zSt_rf hs 3 6 6 rfl) dX9_isJoined_7 ?_
      refine zJ_iload_n dX9_isJoined_10 rfl ?_
      refine zP_iald (zSt_ar hs 6 6 rfl) (by first | assumption | with_reducible exact vp_in_nI (by omega) (by omega) | (simp (disch := omega) only [nI_add, pk_mul, pk_sub, pk_div, pk_rem, nI_clamp]; with_reducible exact vp_in_nI (by omega) (by omega))) dX9_isJoined_11 ?_
      refine zJ_icmp_ge 44 dX9_isJoined_12 (by decide) (fun _ => ?_) (fun c12 => absurd (by rw [nI_clamp (by omega), hpc]; exact nI_le (by omega) (by omega)) c12)
      refine zJ_iconst (v := nI 1) dX9_isJoined_44 rfl ?_
      refine zJ_zret rfl (by decide) dX9_isJoined_45 ?_
      exact ⟨by simp [jnd, hI, nI1], rfl⟩
    | succ m ih =>
      intro p hp hI
      have hpin := hbd.2.2.2.2.2.2.2 n p hn (by omega)
      refine zJ_iload_n dX9_isJoined_2 rfl ?_
      refine zJ_aload_n dX9_isJoined_3 rfl ?_
      refine zP_getr lf_X9_15 (zSt_ob hs 41 9 rfl) rfl (zSt_rf hs 41 0 3 rfl) dX9_isJoined_4 ?_
      refine zP_getr lf_X9_37 (zSt_ob hs 3 0 rfl) rfl (zSt_rf hs 3 6 6 rfl) dX9_isJoined_7 ?_
      refine zJ_iload_n dX9_isJoined_10 rfl ?_
      refine zP_iald (zSt_ar hs 6 6 rfl) (by first | assumption | with_reducible exact vp_in_nI (by omega) (by omega) | (simp (disch := omega) only [nI_add, pk_mul, pk_sub, pk_div, pk_rem, nI_clamp]; with_reducible exact vp_in_nI (by omega) (by omega))) dX9_isJoined_11 ?_
      refine zJ_icmp_ge 44 dX9_isJoined_12 (by decide) (fun c12 => absurd c12 (by rw [nI_clamp (by omega), hpc]; exact nI_ge (by omega) (by omega))) (fun _ => ?_)
      refine zJ_aload_n dX9_isJoined_15 rfl ?_
      refine zJ_iload_n dX9_isJoined_16 rfl ?_
      refine zJ_aload_n dX9_isJoined_17 rfl ?_
      refine zP_getr lf_X9_15 (zSt_ob hs 41 9 rfl) rfl (zSt_rf hs 41 0 3 rfl) dX9_isJoined_18 ?_
      refine zP_getr lf_X9_40 (zSt_ob hs 3 0 rfl) rfl (zSt_rf hs 3 7 7 rfl) dX9_isJoined_21 ?_
      refine zJ_iload_n dX9_isJoined_24 rfl ?_
      refine zJ_iconst (v := nI 4) dX9_isJoined_25 rfl ?_
      refine zJ_imul dX9_isJoined_26 ?_
      refine zJ_iload_n dX9_isJoined_27 rfl ?_
      refine zJ_iadd dX9_isJoined_28 ?_
      refine zP_iald (zSt_ar hs 7 24 rfl) (by first | assumption | with_reducible exact vp_in_nI (by omega) (by omega) | (simp (disch := omega) only [nI_add, pk_mul, pk_sub, pk_div, pk_rem, nI_clamp]; with_reducible exact vp_in_nI (by omega) (by omega))) dX9_isJoined_29 ?_
      simp (disch := omega) only [nI_add, pk_mul, nI_clamp]
      rw [hpin.1]
      refine zP_callVi [_, _] _ lv_X9_33 (k_has (d := d - 1) hl (by omega) hst hn hpin.2) hst.1 rfl (by omega) (Nat.le_of_ble_eq_true rfl) rfl dX9_isJoined_30 ?_
      refine zJ_if_ne 38 dX9_isJoined_33 (by decide) (fun c33 => ?_) (fun c33 => ?_)
      · replace c33 := zb1.mp c33
        refine zJ_iinc1 dX9_isJoined_38 rfl (by decide) ?_
        refine zJ_goto 2 dX9_isJoined_41 (by decide) ?_
        rw [hasB_tin] at c33
        exact ih (p + 1) (by omega) (by simp [allB, hI, c33])
      · replace c33 := zb0.mp c33
        refine zJ_iconst (v := nI 0) dX9_isJoined_36 rfl ?_
        refine zJ_zret rfl (by decide) dX9_isJoined_37 ?_
        rw [hasB_tin] at c33
        exact ⟨by simp [jnd, allB_no (f := fun i => tin (I (s + 1)) n (pn n i)) (show p < pc n by omega) c33, nI0], rfl⟩
  refine zJ_iconst (v := nI 0) dX9_isJoined_0 rfl ?_
  refine zJ_istore_m 3 dX9_isJoined_1 rfl (Nat.le_of_ble_eq_true rfl) (by decide) ?_
  exact loop (pc n) 0 (by omega) rfl
theorem k_X9_joinedBits (hl : l.stackTraces = false) (hd : 3 ≤ d) (hs : zSt g) {s C R N : Nat} {pc : Nat → Nat} {pn : Nat → Nat → Nat} (hbd : zBd I 3 C R N pc pn) (hst : zK g s 8 zLt_State) : zD l Xi mX9_joinedBits d [.ref 41, .ref s] I g (some (.int (bitF (jnd (I (s + 1)) pc pn) N))) I := by
  refine zC_of hl rfl rfl rfl (Nat.le_of_ble_eq_true rfl) (zav_r (zSt_ob hs 41 9 rfl).1 (zav_r hst.1.1 zav_0)) ?_
  have hN := hbd.2.2.1
  have hN6 := hbd.2.2.2.2.2.1
  have loop : ∀ m p, p + m = N → zJ l Xi mX9_joinedBits d 0 0 4 [some (.ref 41), some (.ref s), some (.int (bitF (jnd (I (s + 1)) pc pn) p)), some (.int (nI p))] [] (I, g) (fun r' h' => r' = .inl (some (.int (bitF (jnd (I (s + 1)) pc pn) N))) ∧ h' = (I, g)) := by
    intro m
    induction m with
    | zero =>
      intro p hp
      obtain rfl : p = N := by omega
      refine zJ_iload_n dX9_joinedBits_4 rfl ?_
      refine zJ_aload_n dX9_joinedBits_5 rfl ?_
      refine zP_getr lf_X9_15 (zSt_ob hs 41 9 rfl) rfl (zSt_rf hs 41 0 3 rfl) dX9_joinedBits_6 ?_
      refine zP_geti lf_X9_43 (zSt_ob hs 3 0 rfl) rfl dX9_joinedBits_9 ?_
      refine zJ_icmp_ge 40 dX9_joinedBits_12 (by decide) (fun _ => ?_) (fun c12 => absurd (by rw [hN]; exact nI_le (by omega) (by omega)) c12)
      refine zJ_iload_n dX9_joinedBits_40 rfl ?_
      refine zJ_iret rfl dX9_joinedBits_41 ?_
      exact ⟨rfl, rfl⟩
    | succ m ih =>
      intro p hp
      refine zJ_iload_n dX9_joinedBits_4 rfl ?_
      refine zJ_aload_n dX9_joinedBits_5 rfl ?_
      refine zP_getr lf_X9_15 (zSt_ob hs 41 9 rfl) rfl (zSt_rf hs 41 0 3 rfl) dX9_joinedBits_6 ?_
      refine zP_geti lf_X9_43 (zSt_ob hs 3 0 rfl) rfl dX9_joinedBits_9 ?_
      refine zJ_icmp_ge 40 dX9_joinedBits_12 (by decide) (fun c12 => absurd c12 (by rw [hN]; exact nI_ge (by omega) (by omega))) (fun _ => ?_)
      refine zJ_iload_n dX9_joinedBits_15 rfl ?_
      refine zJ_aload_n dX9_joinedBits_16 rfl ?_
      refine zJ_aload_n dX9_joinedBits_17 rfl ?_
      refine zJ_iload_n dX9_joinedBits_18 rfl ?_
      refine zP_callVi [_, _] _ lv_X9_47 (k_X9_isJoined (d := d - 1) hl (by omega) hs hbd hst (by omega)) (zSt_ob hs 41 9 rfl) rfl (by omega) (Nat.le_of_ble_eq_true rfl) rfl dX9_joinedBits_19 ?_
      refine zJ_if_eq 31 dX9_joinedBits_22 (by decide) (fun c22 => ?_) (fun c22 => ?_)
      · replace c22 := zb0.mp c22
        refine zJ_iconst (v := nI 0) dX9_joinedBits_31 rfl ?_
        refine zJ_ior dX9_joinedBits_32 ?_
        refine zJ_istore_m 2 dX9_joinedBits_33 rfl (Nat.le_of_ble_eq_true rfl) (by decide) ?_
        refine zJ_iinc1 dX9_joinedBits_34 rfl (by decide) ?_
        refine zJ_goto 4 dX9_joinedBits_37 (by decide) ?_
        refine zJ_eq ?_ rfl rfl (ih (p + 1) (by omega))
        simp [bitF, lp, c22, nI0]
      · replace c22 := zb1.mp c22
        refine zJ_iconst (v := nI 1) dX9_joinedBits_25 rfl ?_
        refine zJ_iload_n dX9_joinedBits_26 rfl ?_
        refine zJ_ishl dX9_joinedBits_27 ?_
        refine zJ_goto 32 dX9_joinedBits_28 (by decide) ?_
        refine zJ_ior dX9_joinedBits_32 ?_
        refine zJ_istore_m 2 dX9_joinedBits_33 rfl (Nat.le_of_ble_eq_true rfl) (by decide) ?_
        refine zJ_iinc1 dX9_joinedBits_34 rfl (by decide) ?_
        refine zJ_goto 4 dX9_joinedBits_37 (by decide) ?_
        refine zJ_eq ?_ rfl rfl (ih (p + 1) (by omega))
        simp [bitF, lp, c22, nI0]
  refine zJ_iconst (v := nI 0) dX9_joinedBits_0 rfl ?_
  refine zJ_istore_m 2 dX9_joinedBits_1 rfl (Nat.le_of_ble_eq_true rfl) (by decide) ?_
  refine zJ_iconst (v := nI 0) dX9_joinedBits_2 rfl ?_
  refine zJ_istore_m 3 dX9_joinedBits_3 rfl (Nat.le_of_ble_eq_true rfl) (by decide) ?_
  exact loop N 0 (by omega)
def doneB (w u wd : Nat → Int32) (N : Nat) (pc : Nat → Nat) (pn : Nat → Nat → Nat) : Bool := decide (bitF (jnd w pc pn) N = nI 1 <<< (nI N &&& 31) - nI 1) && decide (cntF (ovB u wd) 64 = 0)
theorem k_X9_allIsDone (hl : l.stackTraces = false) (hd : 4 ≤ d) (hs : zSt g) {s C R N : Nat} {pc : Nat → Nat} {pn : Nat → Nat → Nat} (hbd : zBd I 3 C R N pc pn) (hst : zK g s 8 zLt_State) : zD l Xi mX9_allIsDone d [.ref 41, .ref s] I g (some (.int (if doneB (I (s + 1)) (I (s + 2)) (I 9) N pc pn then 1 else 0))) I := by
  refine zC_of hl rfl rfl rfl (Nat.le_of_ble_eq_true rfl) (zav_r (zSt_ob hs 41 9 rfl).1 (zav_r hst.1.1 zav_0)) ?_
  have hN := hbd.2.2.1
  refine zJ_aload_n dX9_allIsDone_0 rfl ?_
  refine zJ_aload_n dX9_allIsDone_1 rfl ?_
  refine zP_callVi [_] _ lv_X9_51 (k_X9_joinedBits (d := d - 1) hl (by omega) hs hbd hst) (zSt_ob hs 41 9 rfl) rfl (by omega) (Nat.le_of_ble_eq_true rfl) rfl dX9_allIsDone_2 ?_
  refine zJ_iconst (v := nI 1) dX9_allIsDone_5 rfl ?_
  refine zJ_aload_n dX9_allIsDone_6 rfl ?_
  refine zP_getr lf_X9_15 (zSt_ob hs 41 9 rfl) rfl (zSt_rf hs 41 0 3 rfl) dX9_allIsDone_7 ?_
  refine zP_geti lf_X9_43 (zSt_ob hs 3 0 rfl) rfl dX9_allIsDone_10 ?_
  refine zJ_ishl dX9_allIsDone_13 ?_
  refine zJ_iconst (v := nI 1) dX9_allIsDone_14 rfl ?_
  refine zJ_isub dX9_allIsDone_15 ?_
  refine zJ_icmp_ne 31 dX9_allIsDone_16 (by decide) (fun c16 => ?_) (fun c16 => ?_)
  · skip
    refine zJ_iconst (v := nI 0) dX9_allIsDone_31 rfl ?_
    refine zJ_zret rfl (by decide) dX9_allIsDone_32 ?_
    rw [hN] at c16
    exact ⟨by simp [doneB, c16, nI0], rfl⟩
  · skip
    refine zJ_aload_n dX9_allIsDone_19 rfl ?_
    refine zJ_aload_n dX9_allIsDone_20 rfl ?_
    refine zP_callVi [_] _ lv_X9_55 (k_X9_overPlaces (d := d - 1) hl (by omega) hs hst) (zSt_ob hs 41 9 rfl) rfl (by omega) (Nat.le_of_ble_eq_true rfl) rfl dX9_allIsDone_21 ?_
    refine zJ_if_ne 31 dX9_allIsDone_24 (by decide) (fun c24 => ?_) (fun c24 => ?_)
    · skip
      refine zJ_iconst (v := nI 0) dX9_allIsDone_31 rfl ?_
      refine zJ_zret rfl (by decide) dX9_allIsDone_32 ?_
      exact ⟨by simp [doneB, c24, nI0], rfl⟩
    · skip
      refine zJ_iconst (v := nI 1) dX9_allIsDone_27 rfl ?_
      refine zJ_goto 32 dX9_allIsDone_28 (by decide) ?_
      refine zJ_zret rfl (by decide) dX9_allIsDone_32 ?_
      rw [hN] at c16
      exact ⟨by simp [doneB, c16, c24, nI1], rfl⟩
theorem k_X9_netBits (hl : l.stackTraces = false) (hd : 2 ≤ d) (hs : zSt g) {s q C R N : Nat} {pc : Nat → Nat} {pn : Nat → Nat → Nat} (hbd : zBd I 3 C R N pc pn) (hst : zK g s 8 zLt_State) (hq : q < 64) : zD l Xi mX9_netBits d [.ref 41, .ref s, .int (nI q)] I g (some (.int (bitF (fun n => tin (I (s + 1)) n q) N))) I := by
  refine zC_of hl rfl rfl rfl (Nat.le_of_ble_eq_true rfl) (zav_r (zSt_ob hs 41 9 rfl).1 (zav_r hst.1.1 (zav_i zav_0))) ?_
  have hN := hbd.2.2.1
  have hN6 := hbd.2.2.2.2.2.1
  have loop : ∀ m p, p + m = N → zJ l Xi mX9_netBits d 0 0 5 [some (.ref 41), some (.ref s), some (.int (nI q)), some (.int (bitF (fun n => tin (I (s + 1)) n q) p)), some (.int (nI p))] [] (I, g) (fun r' h' => r' = .inl (some (.int (bitF (fun n => tin (I (s + 1)) n q) N))) ∧ h' = (I, g)) := by
    intro m
    induction m with
    | zero =>
      intro p hp
      obtain rfl : p = N := by omega
      refine zJ_iload dX9_netBits_5 rfl ?_
      refine zJ_aload_n dX9_netBits_7 rfl ?_
      refine zP_getr lf_X9_15 (zSt_ob hs 41 9 rfl) rfl (zSt_rf hs 41 0 3 rfl) dX9_netBits_8 ?_
      refine zP_geti lf_X9_43 (zSt_ob hs 3 0 rfl) rfl dX9_netBits_11 ?_
      refine zJ_icmp_ge 44 dX9_netBits_14 (by decide) (fun _ => ?_) (fun c14 => absurd (by rw [hN]; exact nI_le (by omega) (by omega)) c14)
      refine zJ_iload_n dX9_netBits_44 rfl ?_
      refine zJ_iret rfl dX9_netBits_45 ?_
      exact ⟨rfl, rfl⟩
    | succ m ih =>
      intro p hp
      refine zJ_iload dX9_netBits_5 rfl ?_
      refine zJ_aload_n dX9_netBits_7 rfl ?_
      refine zP_getr lf_X9_15 (zSt_ob hs 41 9 rfl) rfl (zSt_rf hs 41 0 3 rfl) dX9_netBits_8 ?_
      refine zP_geti lf_X9_43 (zSt_ob hs 3 0 rfl) rfl dX9_netBits_11 ?_
      refine zJ_icmp_ge 44 dX9_netBits_14 (by decide) (fun c14 => absurd c14 (by rw [hN]; exact nI_ge (by omega) (by omega))) (fun _ => ?_)
      refine zJ_iload_n dX9_netBits_17 rfl ?_
      refine zJ_aload_n dX9_netBits_18 rfl ?_
      refine zJ_iload dX9_netBits_19 rfl ?_
      refine zJ_iload_n dX9_netBits_21 rfl ?_
      refine zP_callVi [_, _] _ lv_X9_33 (k_has (d := d - 1) hl (by omega) hst (by omega) hq) hst.1 rfl (by omega) (Nat.le_of_ble_eq_true rfl) rfl dX9_netBits_22 ?_
      refine zJ_if_eq 35 dX9_netBits_25 (by decide) (fun c25 => ?_) (fun c25 => ?_)
      · replace c25 := zb0.mp c25
        refine zJ_iconst (v := nI 0) dX9_netBits_35 rfl ?_
        refine zJ_ior dX9_netBits_36 ?_
        refine zJ_istore_m 3 dX9_netBits_37 rfl (Nat.le_of_ble_eq_true rfl) (by decide) ?_
        refine zJ_iinc1 dX9_netBits_38 rfl (by decide) ?_
        refine zJ_goto 5 dX9_netBits_41 (by decide) ?_
        refine zJ_eq ?_ rfl rfl (ih (p + 1) (by omega))
        rw [hasB_tin] at c25
        simp [bitF, lp, c25, nI0]
      · replace c25 := zb1.mp c25
        refine zJ_iconst (v := nI 1) dX9_netBits_28 rfl ?_
        refine zJ_iload dX9_netBits_29 rfl ?_
        refine zJ_ishl dX9_netBits_31 ?_
        refine zJ_goto 36 dX9_netBits_32 (by decide) ?_
        refine zJ_ior dX9_netBits_36 ?_
        refine zJ_istore_m 3 dX9_netBits_37 rfl (Nat.le_of_ble_eq_true rfl) (by decide) ?_
        refine zJ_iinc1 dX9_netBits_38 rfl (by decide) ?_
        refine zJ_goto 5 dX9_netBits_41 (by decide) ?_
        refine zJ_eq ?_ rfl rfl (ih (p + 1) (by omega))
        rw [hasB_tin] at c25
        simp [bitF, lp, c25, nI0]
  refine zJ_iconst (v := nI 0) dX9_netBits_0 rfl ?_
  refine zJ_istore_m 3 dX9_netBits_1 rfl (Nat.le_of_ble_eq_true rfl) (by decide) ?_
  refine zJ_iconst (v := nI 0) dX9_netBits_2 rfl ?_
  refine zJ_istore dX9_netBits_3 (Nat.le_of_ble_eq_true rfl) (by decide) ?_
  exact loop N 0 (by omega)
theorem k_X9_usesTogether (hl : l.stackTraces = false) (hd : 1 ≤ d) (hs : zSt g) {s : Nat} (hst : zK g s 8 zLt_State) : zD l Xi mX9_usesTogether d [.ref 41, .ref s] I g (some (.int (sumF (I (s + 2)) 64))) I := by
  refine zC_of hl rfl rfl rfl (Nat.le_of_ble_eq_true rfl) (zav_r (zSt_ob hs 41 9 rfl).1 (zav_r hst.1.1 zav_0)) ?_
  have loop : ∀ m p, p + m = 64 → zJ l Xi mX9_usesTogether d 0 0 4 [some (.ref 41), some (.ref s), some (.int (sumF (I (s + 2)) p)), some (.int (nI p))] [] (I, g) (fun r' h' => r' = .inl (some (.int (sumF (I (s + 2)) 64))) ∧ h' = (I, g)) := by
    intro m
    induction m with
    | zero =>
      intro p hp
      obtain rfl : p = 64 := by omega
      refine zJ_iload_n dX9_usesTogether_4 rfl ?_
      refine zJ_bipush (v := nI 64) dX9_usesTogether_5 rfl ?_
      refine zJ_icmp_ge 25 dX9_usesTogether_7 (by decide) (fun _ => ?_) (fun c7 => absurd (nI_le (by omega) (by omega)) c7)
      refine zJ_iload_n dX9_usesTogether_25 rfl ?_
      refine zJ_iret rfl dX9_usesTogether_26 ?_
      exact ⟨rfl, rfl⟩
    | succ m ih =>
      intro p hp
      refine zJ_iload_n dX9_usesTogether_4 rfl ?_
      refine zJ_bipush (v := nI 64) dX9_usesTogether_5 rfl ?_
      refine zJ_icmp_ge 25 dX9_usesTogether_7 (by decide) (fun c7 => absurd c7 (nI_ge (by omega) (by omega))) (fun _ => ?_)
      refine zJ_iload_n dX9_usesTogether_10 rfl ?_
      refine zJ_aload_n dX9_usesTogether_11 rfl ?_
      refine zP_getr lf_X9_19 hst.1 rfl (zK_rf hst 1 1 2 64 rfl) dX9_usesTogether_12 ?_
      refine zJ_iload_n dX9_usesTogether_15 rfl ?_
      refine zP_iald (zK_ar hst 1 1 2 64 rfl) (by first | assumption | with_reducible exact vp_in_nI (by omega) (by omega) | (simp (disch := omega) only [nI_add, pk_mul, pk_sub, pk_div, pk_rem, nI_clamp]; with_reducible exact vp_in_nI (by omega) (by omega))) dX9_usesTogether_16 ?_
      refine zJ_iadd dX9_usesTogether_17 ?_
      refine zJ_istore_m 2 dX9_usesTogether_18 rfl (Nat.le_of_ble_eq_true rfl) (by decide) ?_
      refine zJ_iinc1 dX9_usesTogether_19 rfl (by decide) ?_
      refine zJ_goto 4 dX9_usesTogether_22 (by decide) ?_
      refine zJ_eq ?_ rfl rfl (ih (p + 1) (by omega))
      rw [nI_clamp (by omega)]
      rfl
  refine zJ_iconst (v := nI 0) dX9_usesTogether_0 rfl ?_
  refine zJ_istore_m 2 dX9_usesTogether_1 rfl (Nat.le_of_ble_eq_true rfl) (by decide) ?_
  refine zJ_iconst (v := nI 0) dX9_usesTogether_2 rfl ?_
  refine zJ_istore_m 3 dX9_usesTogether_3 rfl (Nat.le_of_ble_eq_true rfl) (by decide) ?_
  exact loop 64 0 (by omega)
theorem k_X9_historiesTogether (hl : l.stackTraces = false) (hd : 1 ≤ d) (hs : zSt g) {s : Nat} (hst : zK g s 8 zLt_State) : zD l Xi mX9_historiesTogether d [.ref 41, .ref s] I g (some (.int (sumF (I (s + 3)) 64))) I := by
  refine zC_of hl rfl rfl rfl (Nat.le_of_ble_eq_true rfl) (zav_r (zSt_ob hs 41 9 rfl).1 (zav_r hst.1.1 zav_0)) ?_
  have loop : ∀ m p, p + m = 64 → zJ l Xi mX9_historiesTogether d 0 0 4 [some (.ref 41), some (.ref s), some (.int (sumF (I (s + 3)) p)), some (.int (nI p))] [] (I, g) (fun r' h' => r' = .inl (some (.int (sumF (I (s + 3)) 64))) ∧ h' = (I, g)) := by
    intro m
    induction m with
    | zero =>
      intro p hp
      obtain rfl : p = 64 := by omega
      refine zJ_iload_n dX9_historiesTogether_4 rfl ?_
      refine zJ_bipush (v := nI 64) dX9_historiesTogether_5 rfl ?_
      refine zJ_icmp_ge 25 dX9_historiesTogether_7 (by decide) (fun _ => ?_) (fun c7 => absurd (nI_le (by omega) (by omega)) c7)
      refine zJ_iload_n dX9_historiesTogether_25 rfl ?_
      refine zJ_iret rfl dX9_historiesTogether_26 ?_
      exact ⟨rfl, rfl⟩
    | succ m ih =>
      intro p hp
      refine zJ_iload_n dX9_historiesTogether_4 rfl ?_
      refine zJ_bipush (v := nI 64) dX9_historiesTogether_5 rfl ?_
      refine zJ_icmp_ge 25 dX9_historiesTogether_7 (by decide) (fun c7 => absurd c7 (nI_ge (by omega) (by omega))) (fun _ => ?_)
      refine zJ_iload_n dX9_historiesTogether_10 rfl ?_
      refine zJ_aload_n dX9_historiesTogether_11 rfl ?_
      refine zP_getr lf_X9_64 hst.1 rfl (zK_rf hst 2 2 3 64 rfl) dX9_historiesTogether_12 ?_
      refine zJ_iload_n dX9_historiesTogether_15 rfl ?_
      refine zP_iald (zK_ar hst 2 2 3 64 rfl) (by first | assumption | with_reducible exact vp_in_nI (by omega) (by omega) | (simp (disch := omega) only [nI_add, pk_mul, pk_sub, pk_div, pk_rem, nI_clamp]; with_reducible exact vp_in_nI (by omega) (by omega))) dX9_historiesTogether_16 ?_
      refine zJ_iadd dX9_historiesTogether_17 ?_
      refine zJ_istore_m 2 dX9_historiesTogether_18 rfl (Nat.le_of_ble_eq_true rfl) (by decide) ?_
      refine zJ_iinc1 dX9_historiesTogether_19 rfl (by decide) ?_
      refine zJ_goto 4 dX9_historiesTogether_22 (by decide) ?_
      refine zJ_eq ?_ rfl rfl (ih (p + 1) (by omega))
      rw [nI_clamp (by omega)]
      rfl
  refine zJ_iconst (v := nI 0) dX9_historiesTogether_0 rfl ?_
  refine zJ_istore_m 2 dX9_historiesTogether_1 rfl (Nat.le_of_ble_eq_true rfl) (by decide) ?_
  refine zJ_iconst (v := nI 0) dX9_historiesTogether_2 rfl ?_
  refine zJ_istore_m 3 dX9_historiesTogether_3 rfl (Nat.le_of_ble_eq_true rfl) (by decide) ?_
  exact loop 64 0 (by omega)
theorem k_X9_wallPlaces (hl : l.stackTraces = false) (hd : 1 ≤ d) (hs : zSt g) {s : Nat} (hst : zK g s 8 zLt_State) : zD l Xi mX9_wallPlaces d [.ref 41, .ref s] I g (some (.int (sumF (I (s + 4)) 64))) I := by
  refine zC_of hl rfl rfl rfl (Nat.le_of_ble_eq_true rfl) (zav_r (zSt_ob hs 41 9 rfl).1 (zav_r hst.1.1 zav_0)) ?_
  have loop : ∀ m p, p + m = 64 → zJ l Xi mX9_wallPlaces d 0 0 4 [some (.ref 41), some (.ref s), some (.int (sumF (I (s + 4)) p)), some (.int (nI p))] [] (I, g) (fun r' h' => r' = .inl (some (.int (sumF (I (s + 4)) 64))) ∧ h' = (I, g)) := by
    intro m
    induction m with
    | zero =>
      intro p hp
      obtain rfl : p = 64 := by omega
      refine zJ_iload_n dX9_wallPlaces_4 rfl ?_
      refine zJ_bipush (v := nI 64) dX9_wallPlaces_5 rfl ?_
      refine zJ_icmp_ge 25 dX9_wallPlaces_7 (by decide) (fun _ => ?_) (fun c7 => absurd (nI_le (by omega) (by omega)) c7)
      refine zJ_iload_n dX9_wallPlaces_25 rfl ?_
      refine zJ_iret rfl dX9_wallPlaces_26 ?_
      exact ⟨rfl, rfl⟩
    | succ m ih =>
      intro p hp
      refine zJ_iload_n dX9_wallPlaces_4 rfl ?_
      refine zJ_bipush (v := nI 64) dX9_wallPlaces_5 rfl ?_
      refine zJ_icmp_ge 25 dX9_wallPlaces_7 (by decide) (fun c7 => absurd c7 (nI_ge (by omega) (by omega))) (fun _ => ?_)
      refine zJ_iload_n dX9_wallPlaces_10 rfl ?_
      refine zJ_aload_n dX9_wallPlaces_11 rfl ?_
      refine zP_getr lf_X9_67 hst.1 rfl (zK_rf hst 3 3 4 64 rfl) dX9_wallPlaces_12 ?_
      refine zJ_iload_n dX9_wallPlaces_15 rfl ?_
      refine zP_iald (zK_ar hst 3 3 4 64 rfl) (by first | assumption | with_reducible exact vp_in_nI (by omega) (by omega) | (simp (disch := omega) only [nI_add, pk_mul, pk_sub, pk_div, pk_rem, nI_clamp]; with_reducible exact vp_in_nI (by omega) (by omega))) dX9_wallPlaces_16 ?_
      refine zJ_iadd dX9_wallPlaces_17 ?_
      refine zJ_istore_m 2 dX9_wallPlaces_18 rfl (Nat.le_of_ble_eq_true rfl) (by decide) ?_
      refine zJ_iinc1 dX9_wallPlaces_19 rfl (by decide) ?_
      refine zJ_goto 4 dX9_wallPlaces_22 (by decide) ?_
      refine zJ_eq ?_ rfl rfl (ih (p + 1) (by omega))
      rw [nI_clamp (by omega)]
      rfl
  refine zJ_iconst (v := nI 0) dX9_wallPlaces_0 rfl ?_
  refine zJ_istore_m 2 dX9_wallPlaces_1 rfl (Nat.le_of_ble_eq_true rfl) (by decide) ?_
  refine zJ_iconst (v := nI 0) dX9_wallPlaces_2 rfl ?_
  refine zJ_istore_m 3 dX9_wallPlaces_3 rfl (Nat.le_of_ble_eq_true rfl) (by decide) ?_
  exact loop 64 0 (by omega)
end ZSurvey2
