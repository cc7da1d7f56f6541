/-! ===== Book: its text read; Law: forget, copyFrom ===== -/
section ZBookR
variable {l : Launch} {Xi : zXi} {d : Nat} {I : zI} {g : zG}
def bkP (bk : List (Nat × Nat)) (i : Nat) : Nat := (bk.getD i (0, 0)).1
def bkW (bk : List (Nat × Nat)) (i : Nat) : Nat := (bk.getD i (0, 0)).2
def bkA (bk : List (Nat × Nat)) (p : Nat) : Bool := anyB (fun i => decide (bkP bk i = p)) bk.length
def pLine0 (bs : Nat → Nat) (L C R : Nat) (bk : List (Nat × Nat)) (A : Nat) : PR Nat := pbind (pNum bs L 0 C A) fun x A1 => if 8 ≤ bk.length then .inl (3, sk bs L A) else pbind (pNum bs L 0 R A1) fun y A2 => if bkA bk (y * 8 + x) then .inl (2, sk bs L A1) else .inr (y * 8 + x, A2)
def pLine (bs : Nat → Nat) (L C R : Nat) (bk : List (Nat × Nat)) (A : Nat) : PR (Nat × Nat) := pbind (pLine0 bs L C R bk A) fun p A => pbind (pNum bs L 0 7 A) fun v A => pbind (pSign bs L 59 A) fun _ A => .inr ((p, v), A)
def pBook (bs : Nat → Nat) (L C R : Nat) : Nat → List (Nat × Nat) → Nat → PR (List (Nat × Nat))
  | 0, bk, A => .inr (bk, A)
  | k + 1, bk, A => if L ≤ sk bs L A then .inr (bk, sk bs L A) else pbind (pLine bs L C R bk A) fun q A => pBook bs L C R k (bk ++ [q]) A
def bkOk (bk : List (Nat × Nat)) : Prop := bk.length ≤ 8 ∧ ∀ i, i < bk.length → bkP bk i < 64 ∧ bkW bk i ≤ 6
def cBk (I : zI) (bk : List (Nat × Nat)) : Prop := zBk I 32 bk.length (bkP bk) (bkW bk)
theorem cBk_ok {bk : List (Nat × Nat)} (h : cBk I bk) : bkOk bk := ⟨h.2.1, fun i hi => ⟨(h.2.2 i hi).2.1, (h.2.2 i hi).2.2.2⟩⟩
def fK (I J : zI) : Prop := ∀ a, a ≠ 1 → a ≠ 32 → a ≠ 33 → a ≠ 34 → J a = I a
theorem fK_rfl : fK I I := fun _ _ _ _ _ => rfl
theorem fK_trans {J K : zI} (h : fK I J) (h2 : fK J K) : fK I K := fun a p q r s => (h2 a p q r s).trans (h a p q r s)
theorem fK_fT {J : zI} (h : fT I J) : fK I J := fun a p _ _ _ => h a p
theorem cBk_fT {J : zI} {bk : List (Nat × Nat)} (h : cBk I bk) (hT : fT I J) : cBk J bk := by
  unfold cBk zBk at *
  rw [hT 32 (by decide), hT (32 + 1) (by decide), hT (32 + 2) (by decide)]
  exact h
theorem cBk_push {bk : List (Nat × Nat)} {p v : Nat} (h : cBk I bk) (hn : bk.length < 8) (hp : p < 64) (hv : v ≤ 6) : cBk (zup (zup (zup I 33 bk.length (nI p)) 34 bk.length (nI v)) 32 0 (nI (bk.length + 1))) (bk ++ [(p, v)]) := by
  obtain ⟨h1, h2, h3⟩ := h
  refine ⟨by rw [zup_same, upd_at, List.length_append]; rfl, by rw [List.length_append, List.length_singleton]; omega, fun i hi => ?_⟩
  rw [List.length_append, List.length_singleton] at hi
  rw [zup_row (show 32 + 1 ≠ 32 by decide), zup_row (show 32 + 1 ≠ 34 by decide), show 32 + 1 = 33 from rfl, zup_same, zup_row (show 32 + 2 ≠ 32 by decide), show 32 + 2 = 34 from rfl, zup_same, zup_row (show 34 ≠ 33 by decide)]
  unfold bkP bkW
  by_cases z : i = bk.length
  · rw [z, upd_at, upd_at, List.getD_eq_getElem?_getD, List.getElem?_append_right (Nat.le_refl _)]
    simp only [Nat.sub_self, List.getElem?_cons_zero, Option.getD_some]
    exact ⟨trivial, hp, trivial, hv⟩
  · rw [upd_ne z, upd_ne z, List.getD_eq_getElem?_getD, List.getElem?_append_left (by omega), ← List.getD_eq_getElem?_getD]
    exact h3 i (by omega)
theorem pOk_bind {α β : Type} {bs : Nat → Nat} {L A F : Nat} {r : PR α} {r' : PR β} {P : α → Prop} {Q : β → Prop} (h : pOk I bs L A F r P) (e1 : ∀ q, r = .inl q → r' = .inl q) (e2 : ∀ x, r = .inr (x, A) → P x → ∃ y, r' = .inr (y, A) ∧ Q y) : pOk I bs L A F r' Q := by
  cases r with
  | inl q => rw [e1 q rfl]; exact ⟨h.1, fun x a z => by cases z⟩
  | inr q =>
    obtain ⟨x, a⟩ := q
    obtain ⟨b1, b2⟩ := h.2 x a rfl
    subst b1
    obtain ⟨y, hy, hq⟩ := e2 x rfl b2
    rw [hy]
    exact ⟨h.1, fun x a z => by cases z; exact ⟨rfl, hq⟩⟩
set_option maxHeartbeats 1000000 in
theorem k_readLine (hl : l.stackTraces = false) (hd : 3 ≤ d) (hs : zSt g) {bs : Nat → Nat} {L A F C R : Nat} {bk : List (Nat × Nat)} (ht : tX I bs L A F none) (hk : cBk I bk) (hC : I 3 0 = nI C) (hR : I 3 1 = nI R) (hC8 : C ≤ 8) (hR8 : R ≤ 8) : zEv l Xi mX1_readLine d [.ref 32, .ref 1, .ref 3] I g (fun J => fK I J ∧ ∃ A' F', pOk J bs L A' F' (pLine bs L C R bk A) (fun q => cBk J (bk ++ [q]))) := by
  refine zC_of hl rfl rfl rfl (Nat.le_of_ble_eq_true rfl) (zav_r (zSt_ob hs 32 1 rfl).1 (zav_r (zSt_ob hs 1 10 rfl).1 (zav_r (zSt_ob hs 3 0 rfl).1 zav_0))) ?_
  have hk8 := hk.2.1
  have h70 : ∀ (J : zI) (A3 F3 : Nat) (x5 : Int32), fT I J → pOk J bs L A3 F3 (pLine0 bs L C R bk A) (fun p => x5 = nI p ∧ p < 64 ∧ bk.length < 8) → zJ l Xi mX1_readLine d 0 0 70 [some (.ref 32), some (.ref 1), some (.ref 3), none, none, some (.int x5), none] [] (J, g) (fun r' h' => r' = .inl none ∧ ∃ J, h' = (J, g) ∧ fK I J ∧ ∃ A' F', pOk J bs L A' F' (pLine bs L C R bk A) (fun q => cBk J (bk ++ [q]))) := by
    intro J A3 F3 x5 f0 h3
    have hB : pLine bs L C R bk A = pbind (pbind (pbind (pLine0 bs L C R bk A) fun x A => pbind (pNum bs L 0 7 A) fun y A => .inr ((x, y), A)) fun x A => pbind (pSign bs L 59 A) fun _ A => .inr (x, A)) fun q A => .inr (q, A) := by
      simp only [pLine, pbind_assoc, pbind_inr]
    refine zJ_aload_n dX1_readLine_70 rfl ?_
    refine zJ_iconst (v := nI 0) dX1_readLine_71 rfl ?_
    refine zJ_bipush (v := nI 6) dX1_readLine_72 rfl ?_
    refine zP_ecallVi [_, _] _ lv_X1_46 (k_numP (lo := 0) (hi := 7) (d := d - 1) hl (by omega) hs h3 (by omega) (by omega) rfl (nI_pred 6).symm) (zSt_ob hs 1 10 rfl) rfl (by omega) (Nat.le_of_ble_eq_true rfl) rfl dX1_readLine_74 (fun x J1 hx => ?_)
    obtain ⟨v, rfl, hv, f1, h4⟩ := hx
    refine zJ_istore dX1_readLine_77 (Nat.le_of_ble_eq_true rfl) (by decide) ?_
    refine zJ_aload_n dX1_readLine_79 rfl ?_
    refine zJ_bipush (v := nI 59) dX1_readLine_80 rfl ?_
    refine zP_ecallVv [_] _ lv_X1_64 (k_needP (d := d - 1) hl (by omega) hs h4 (by omega)) (zSt_ob hs 1 10 rfl) rfl (by omega) (Nat.le_of_ble_eq_true rfl) rfl dX1_readLine_82 (fun J2 hJ2 => ?_)
    obtain ⟨f2, A5, F5, h5⟩ := hJ2
    have fT2 := fT_trans f0 (fT_trans f1 f2)
    have hk2 := cBk_fT hk fT2
    refine zJ_aload_n dX1_readLine_85 rfl ?_
    refine zP_callVi [] _ lv_X1_28 (k_failedP (d := d - 1) hl (by omega) hs h5) (zSt_ob hs 1 10 rfl) rfl (by omega) (Nat.le_of_ble_eq_true rfl) rfl dX1_readLine_86 ?_
    refine zJ_if_ne 124 dX1_readLine_89 (by decide) (fun c89 => ?_) (fun c89 => ?_)
    · replace c89 := zb1.mp c89
      refine zJ_vret rfl dX1_readLine_124 ?_
      exact ⟨rfl, J2, rfl, fK_fT fT2, A5, F5, pOk_bad h5 c89 hB⟩
    · replace c89 := zb0.mp c89
      obtain ⟨q, hq, ⟨hx5, hp64, hk7⟩, hqv, -, hv7⟩ := toE_ok h5 c89
      refine zJ_aload_n dX1_readLine_92 rfl ?_
      refine zP_getr lf_X1_9 (zSt_ob hs 32 1 rfl) rfl (zSt_rf hs 32 1 33 rfl) dX1_readLine_93 ?_
      refine zJ_aload_n dX1_readLine_96 rfl ?_
      refine zP_geti lf_X1_18 (zSt_ob hs 32 1 rfl) rfl dX1_readLine_97 ?_
      rw [hk2.1]
      refine zJ_iload dX1_readLine_100 rfl ?_
      refine zP_iast (zSt_ar hs 33 8 rfl) (by first | assumption | with_reducible exact vp_in_nI (by omega) (by omega) | (simp (disch := omega) only [nI_add, pk_mul, pk_sub, pk_div, pk_rem, nI_clamp]; with_reducible exact vp_in_nI (by omega) (by omega))) dX1_readLine_102 ?_
      refine zJ_aload_n dX1_readLine_103 rfl ?_
      refine zP_getr lf_X1_15 (zSt_ob hs 32 1 rfl) rfl (zSt_rf hs 32 2 34 rfl) dX1_readLine_104 ?_
      refine zJ_aload_n dX1_readLine_107 rfl ?_
      refine zP_geti lf_X1_18 (zSt_ob hs 32 1 rfl) rfl dX1_readLine_108 ?_
      rw [zup_row (by decide), hk2.1]
      refine zJ_iload dX1_readLine_111 rfl ?_
      refine zP_iast (zSt_ar hs 34 8 rfl) (by first | assumption | with_reducible exact vp_in_nI (by omega) (by omega) | (simp (disch := omega) only [nI_add, pk_mul, pk_sub, pk_div, pk_rem, nI_clamp]; with_reducible exact vp_in_nI (by omega) (by omega))) dX1_readLine_113 ?_
      refine zJ_aload_n dX1_readLine_114 rfl ?_
      refine zJ_dup dX1_readLine_115 rfl ?_
      refine zP_geti lf_X1_18 (zSt_ob hs 32 1 rfl) rfl dX1_readLine_116 ?_
      rw [zup_row (by decide), zup_row (by decide), hk2.1]
      refine zJ_iconst (v := nI 1) dX1_readLine_119 rfl ?_
      refine zJ_iadd dX1_readLine_120 ?_
      rw [nI_add]
      refine zP_puti lf_X1_18 (zSt_ob hs 32 1 rfl) rfl dX1_readLine_121 ?_
      refine zJ_vret rfl dX1_readLine_124 ?_
      rw [nI_clamp (by omega)]
      refine ⟨rfl, _, rfl, fun a p q r s => by rw [zup_row q, zup_row s, zup_row r, fT2 a p], A5, F5, pOk_map _ (pOk_zup (pOk_zup (pOk_zup h5 (by decide)) (by decide)) (by decide)) hB (fun y hy => ?_)⟩
      obtain ⟨⟨y1, y2, y3⟩, y4, y5, y6⟩ := hy
      have e : y = (y.1, v) := by rw [← y4]
      rw [e, y1]
      exact cBk_push hk2 hk7 y2 (by omega)
  refine zJ_aload_n dX1_readLine_0 rfl ?_
  refine zJ_iconst (v := nI 0) dX1_readLine_1 rfl ?_
  refine zJ_aload_n dX1_readLine_2 rfl ?_
  refine zP_geti lf_X1_41 (zSt_ob hs 3 0 rfl) rfl dX1_readLine_3 ?_
  rw [hC]
  refine zJ_iconst (v := nI 1) dX1_readLine_6 rfl ?_
  refine zJ_isub dX1_readLine_7 ?_
  refine zP_ecallVi [_, _] _ lv_X1_46 (k_numP (lo := 0) (hi := C) (d := d - 1) hl (by omega) hs (pOk_0 ht) (by omega) (by omega) rfl rfl) (zSt_ob hs 1 10 rfl) rfl (by omega) (Nat.le_of_ble_eq_true rfl) rfl dX1_readLine_8 (fun x1 J1 hx1 => ?_)
  obtain ⟨c1, rfl, hc1, f1, h1⟩ := hx1
  refine zJ_istore_m 3 dX1_readLine_11 rfl (Nat.le_of_ble_eq_true rfl) (by decide) ?_
  refine zJ_aload_n dX1_readLine_12 rfl ?_
  refine zP_geti lf_X1_18 (zSt_ob hs 32 1 rfl) rfl dX1_readLine_13 ?_
  refine zJ_bipush (v := nI 8) dX1_readLine_16 rfl ?_
  rw [f1 32 (by decide), hk.1]
  refine zJ_icmp_lt 30 dX1_readLine_18 (by decide) (fun c18 => ?_) (fun c18 => ?_)
  · skip
    have hk7 : bk.length < 8 := (nI_ltI (by omega) (by omega)).mp c18
    have hk1 := cBk_fT hk f1
    refine zJ_aload_n dX1_readLine_30 rfl ?_
    refine zJ_iconst (v := nI 0) dX1_readLine_31 rfl ?_
    refine zJ_aload_n dX1_readLine_32 rfl ?_
    refine zP_geti lf_X1_57 (zSt_ob hs 3 0 rfl) rfl dX1_readLine_33 ?_
    rw [f1 3 (by decide), hR]
    refine zJ_iconst (v := nI 1) dX1_readLine_36 rfl ?_
    refine zJ_isub dX1_readLine_37 ?_
    refine zP_ecallVi [_, _] _ lv_X1_46 (k_numP (lo := 0) (hi := R) (d := d - 1) hl (by omega) hs h1 (by omega) (by omega) rfl rfl) (zSt_ob hs 1 10 rfl) rfl (by omega) (Nat.le_of_ble_eq_true rfl) rfl dX1_readLine_38 (fun x2 J2 hx2 => ?_)
    obtain ⟨c2, rfl, hc2, f2, h2⟩ := hx2
    refine zJ_istore dX1_readLine_41 (Nat.le_of_ble_eq_true rfl) (by decide) ?_
    refine zJ_iload dX1_readLine_43 rfl ?_
    refine zJ_bipush (v := nI 8) dX1_readLine_45 rfl ?_
    refine zJ_imul dX1_readLine_47 ?_
    refine zJ_iload_n dX1_readLine_48 rfl ?_
    refine zJ_iadd dX1_readLine_49 ?_
    rw [pk_mul, nI_add]
    refine zJ_istore dX1_readLine_50 (Nat.le_of_ble_eq_true rfl) (by decide) ?_
    refine zJ_aload_n dX1_readLine_52 rfl ?_
    refine zJ_iload dX1_readLine_53 rfl ?_
    refine zP_callVi [_] _ lv_X1_60 (k_X1_hasLineAt (d := d - 1) hl (by omega) (zSt_spareBook hs) (cBk_fT hk1 f2) (by omega)) (zSt_ob hs 32 1 rfl) rfl (by omega) (Nat.le_of_ble_eq_true rfl) rfl dX1_readLine_55 ?_
    refine zJ_if_eq 70 dX1_readLine_58 (by decide) (fun c58 => ?_) (fun c58 => ?_)
    · replace c58 := zb0.mp c58
      refine zJ_back (zle_r (zle_r (zle_r (zle_n (zle_n (zle_r (zle_n zle_0))))))) rfl (h70 J2 _ _ _ (fT_trans f1 f2) (pOk_bind h2 (fun q hq => ?_) (fun x hx hP => ?_)))
      · unfold pLine0
        simp only [pbind_assoc, pbind_inr] at hq
        cases e1 : pNum bs L 0 C A with
        | inl q1 => rw [e1] at hq; cases hq; rfl
        | inr q1 =>
          rw [e1] at hq
          simp only [pbind] at hq ⊢
          rw [if_neg (by omega)]
          cases e2 : pNum bs L 0 R q1.2 with
          | inl q2 => rw [e2] at hq; cases hq; rfl
          | inr q2 => rw [e2] at hq; cases hq
      · obtain ⟨⟨-, z1, z2, z3⟩, z4, z5, z6⟩ := hP
        refine ⟨c2 * 8 + c1, ?_, rfl, by omega, hk7⟩
        unfold pLine0
        simp only [pbind_assoc, pbind_inr] at hx
        obtain ⟨y1, a1, e1, hx⟩ := pbind_ok hx
        obtain ⟨y2, a2, e2, hx⟩ := pbind_ok hx
        simp only [Sum.inr.injEq, Prod.mk.injEq] at hx
        obtain ⟨hx1, hx2⟩ := hx
        rw [e1, pbind_inr, if_neg (by omega), e2, pbind_inr]
        rw [← hx1] at z1 z4
        simp only at z1 z4
        rw [z1, z4, if_neg (by unfold bkA; rw [c58]; decide), hx2]
    · replace c58 := zb1.mp c58
      refine zJ_aload_n dX1_readLine_61 rfl ?_
      refine zJ_iconst (v := nI 2) dX1_readLine_62 rfl ?_
      refine zJ_aload_n dX1_readLine_63 rfl ?_
      refine zP_geti lf_X1_50 (zSt_ob hs 1 10 rfl) rfl dX1_readLine_64 ?_
      refine zP_ecallVv [_, _] _ lv_X1_53 (k_failP (β := Nat) (Q := fun p => (nI (c2 * 8 + c1) : Int32) = nI p ∧ p < 64 ∧ bk.length < 8) (w := sk bs L (nuE bs L A)) (d := d - 1) hl (by omega) hs h2 (by omega) (by omega) (tX_fr h2.1)) (zSt_ob hs 1 10 rfl) rfl (by omega) (Nat.le_of_ble_eq_true rfl) rfl dX1_readLine_67 (fun J3 hJ3 => ?_)
      refine zJ_back (zle_r (zle_r (zle_r (zle_n (zle_n (zle_r (zle_n zle_0))))))) rfl (h70 J3 _ _ _ (fT_trans f1 (fT_trans f2 hJ3.1)) (pOk_bind hJ3.2 (fun q hq => ?_) (fun x hx hP => ?_)))
      · unfold pLine0
        simp only [pbind_assoc, pbind_inr] at hq
        have hA1 : ∀ q1, pNum bs L 0 C A = .inr q1 → q1.2 = nuE bs L A ∧ q1.1 = c1 := fun q1 e1 => by
          have h9 := h1.2 ((), q1.1) q1.2 (by rw [pbind_inr, e1]; rfl)
          exact ⟨h9.1.symm, h9.2.2.1⟩
        cases e1 : pNum bs L 0 C A with
        | inl q1 => rw [e1] at hq; cases hq; rfl
        | inr q1 =>
          obtain ⟨b1, b2⟩ := hA1 q1 e1
          rw [e1] at hq
          simp only [pbind] at hq ⊢
          rw [if_neg (by omega), b1]
          rw [b1] at hq
          cases e2 : pNum bs L 0 R (nuE bs L A) with
          | inl q2 => rw [e2] at hq; cases hq; rfl
          | inr q2 =>
            rw [e2] at hq
            cases hq
            have h9 : q2.1 = c2 := (h2.2 (((), q1.1), q2.1) q2.2 (by rw [pbind_inr, e1]; simp only [pbind]; rw [b1, e2])).2.2.1
            simp only
            rw [b2, h9, if_pos (by unfold bkA; exact c58)]
      · obtain ⟨_, _, _, hx⟩ := pbind_ok hx
        cases hx
  · skip
    refine zJ_aload_n dX1_readLine_21 rfl ?_
    refine zJ_iconst (v := nI 3) dX1_readLine_22 rfl ?_
    refine zJ_aload_n dX1_readLine_23 rfl ?_
    refine zP_geti lf_X1_50 (zSt_ob hs 1 10 rfl) rfl dX1_readLine_24 ?_
    refine zP_ecallVv [_, _] _ lv_X1_53 (k_failP (β := Nat × Nat) (Q := fun _ => False) (w := sk bs L A) (d := d - 1) hl (by omega) hs h1 (by omega) (by omega) (tX_fr h1.1)) (zSt_ob hs 1 10 rfl) rfl (by omega) (Nat.le_of_ble_eq_true rfl) rfl dX1_readLine_27 (fun J2 hJ2 => ?_)
    have hk8' : 8 ≤ bk.length := Nat.le_of_not_lt (fun z => c18 (nI_lt z (by omega)))
    have hq : ∃ q, (pbind (pbind (.inr ((), A)) fun x A => pbind (pNum bs L 0 C A) fun y A => (.inr ((x, y), A) : PR (Unit × Nat))) (fun _ _ => (.inl (3, sk bs L A) : PR (Nat × Nat)))) = .inl q ∧ pLine0 bs L C R bk A = .inl q := by
      unfold pLine0
      simp only [pbind_assoc, pbind_inr]
      cases e1 : pNum bs L 0 C A with
      | inl q1 => exact ⟨q1, rfl, rfl⟩
      | inr q1 => exact ⟨_, rfl, by simp only [pbind]; rw [if_pos hk8']⟩
    obtain ⟨q, hq1, hq2⟩ := hq
    obtain ⟨f2, h2⟩ := hJ2
    rw [hq1] at h2
    refine zJ_aload_n dX1_readLine_30 rfl ?_
    refine zJ_iconst (v := nI 0) dX1_readLine_31 rfl ?_
    refine zJ_aload_n dX1_readLine_32 rfl ?_
    refine zP_geti lf_X1_57 (zSt_ob hs 3 0 rfl) rfl dX1_readLine_33 ?_
    rw [f2 3 (by decide), f1 3 (by decide), hR]
    refine zJ_iconst (v := nI 1) dX1_readLine_36 rfl ?_
    refine zJ_isub dX1_readLine_37 ?_
    refine zP_ecallVi [_, _] _ lv_X1_46 (k_numP (lo := 0) (hi := R) (d := d - 1) hl (by omega) hs h2 (by omega) (by omega) rfl rfl) (zSt_ob hs 1 10 rfl) rfl (by omega) (Nat.le_of_ble_eq_true rfl) rfl dX1_readLine_38 (fun x2 J3 hx2 => ?_)
    obtain ⟨c2, rfl, hc2, f3, h3⟩ := hx2
    refine zJ_istore dX1_readLine_41 (Nat.le_of_ble_eq_true rfl) (by decide) ?_
    refine zJ_iload dX1_readLine_43 rfl ?_
    refine zJ_bipush (v := nI 8) dX1_readLine_45 rfl ?_
    refine zJ_imul dX1_readLine_47 ?_
    refine zJ_iload_n dX1_readLine_48 rfl ?_
    refine zJ_iadd dX1_readLine_49 ?_
    rw [pk_mul, nI_add]
    refine zJ_istore dX1_readLine_50 (Nat.le_of_ble_eq_true rfl) (by decide) ?_
    refine zJ_aload_n dX1_readLine_52 rfl ?_
    refine zJ_iload dX1_readLine_53 rfl ?_
    refine zP_callVi [_] _ lv_X1_60 (k_X1_hasLineAt (d := d - 1) hl (by omega) (zSt_spareBook hs) (cBk_fT hk (fT_trans f1 (fT_trans f2 f3))) (by omega)) (zSt_ob hs 32 1 rfl) rfl (by omega) (Nat.le_of_ble_eq_true rfl) rfl dX1_readLine_55 ?_
    refine zJ_if_eq 70 dX1_readLine_58 (by decide) (fun c58 => ?_) (fun c58 => ?_)
    · replace c58 := zb0.mp c58
      refine zJ_back (zle_r (zle_r (zle_r (zle_n (zle_n (zle_r (zle_n zle_0))))))) rfl (h70 J3 _ _ _ (fT_trans f1 (fT_trans f2 f3)) (pOk_bind h3 (fun q' hq' => by rw [hq2]; cases hq'; rfl) (fun x hx hP => by cases hx)))
    · replace c58 := zb1.mp c58
      refine zJ_aload_n dX1_readLine_61 rfl ?_
      refine zJ_iconst (v := nI 2) dX1_readLine_62 rfl ?_
      refine zJ_aload_n dX1_readLine_63 rfl ?_
      refine zP_geti lf_X1_50 (zSt_ob hs 1 10 rfl) rfl dX1_readLine_64 ?_
      refine zP_ecallVv [_, _] _ lv_X1_53 (k_failP (β := Nat) (Q := fun p => (nI (c2 * 8 + c1) : Int32) = nI p ∧ p < 64 ∧ bk.length < 8) (w := sk bs L (nuE bs L A)) (d := d - 1) hl (by omega) hs h3 (by omega) (by omega) (tX_fr h3.1)) (zSt_ob hs 1 10 rfl) rfl (by omega) (Nat.le_of_ble_eq_true rfl) rfl dX1_readLine_67 (fun J4 hJ4 => ?_)
      refine zJ_back (zle_r (zle_r (zle_r (zle_n (zle_n (zle_r (zle_n zle_0))))))) rfl (h70 J4 _ _ _ (fT_trans f1 (fT_trans f2 (fT_trans f3 hJ4.1))) (pOk_bind hJ4.2 (fun q' hq' => by rw [hq2]; cases hq'; rfl) (fun x hx hP => by cases hx)))
end ZBookR
