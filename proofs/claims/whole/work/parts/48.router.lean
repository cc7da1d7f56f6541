/-! ===== Router: what stays of a tree ===== -/
section ZRouter
variable {l : Launch} {Xi : zXi} {d : Nat} {I : zI} {g : zG}
theorem wok_R {s : Nat} {R : Nat → Int32} (hw : wok R) (hR : zRow I s R) : wok (I (s + 1)) := fun k hk => by rw [hR.1 k hk]; exact hw k hk
theorem par_eq {b : zWo} {R : Nat → Int32} {s n p : Nat} (hw : wok R) (hW : zWi I b) (hR : zRow I s R) (hn : n < 6) (hp : p < 64) : par (I (s + 1)) (I 11) n p = parM b R n p := by
  unfold par parM
  rw [hR.1 (n * 64 + p) (by omega)]
  split
  · rfl
  · next h =>
    rcases hw (n * 64 + p) (by omega) with e | ⟨c, hc, e⟩
    · exact absurd (Or.inl e) h
    · have : c ≠ 4 := fun z => h (Or.inr (by rw [e, z]; rfl))
      rw [e, nI_clamp (by omega)]
      exact un_nbr hW hp (by omega)
theorem root_eq {b : zWo} {n : Nat} (hW : zWi I b) (hn : n < 6) (hpc : 0 < bpc b n) : I (3 + 4) (n * 4) = nI (bpn b n 0) ∧ bpn b n 0 < 64 := hW.2.1.2.2.2.2.2.2.2 n 0 hn hpc
theorem k_X6_isClear (hl : l.stackTraces = false) (hd : 2 ≤ d) (hs : zSt g) {s n p : Nat} {b : zWo} {R : Nat → Int32} (hst : zK g s 8 zLt_State) (hn : n < 6) (hp : p < 64) (hpc : 0 < bpc b n) (hW : zWi I b) (hR : zRow I s R) (hw : wok R) : zD l Xi mX6_isClear d [.ref 43, .ref s, .int (nI n), .int (nI p)] I g (some (.int (if clrM b R n 64 (some p) then 1 else 0))) I := by
  refine zC_of hl rfl rfl rfl (Nat.le_of_ble_eq_true rfl) (zav_r (zSt_ob hs 43 6 rfl).1 (zav_r hst.1.1 (zav_i (zav_i zav_0)))) ?_
  obtain ⟨V, hV⟩ : ∃ V, clrM b R n 64 (some p) = V := ⟨_, rfl⟩
  rw [hV]
  obtain ⟨hroot, hr64⟩ := root_eq hW hn hpc
  have loop : ∀ m k, k + m = 64 → ∀ (o : Option Nat), (clrM b R n (64 - k) o = V ∧ ∀ q, o = some q → q < 64) → zJ l Xi mX6_isClear d 0 0 16 [some (.ref 43), some (.ref s), some (.int (nI n)), some (.int (nI p)), some (.int (nI (bpn b n 0))), some (.int (oI o)), some (.int (nI k))] [] (I, g) (fun r' h' => r' = .inl (some (.int (if V then 1 else 0))) ∧ h' = (I, g)) := by
    intro m
    induction m with
    | zero =>
      intro k hp o hI
      obtain rfl : k = 64 := by omega
      refine zJ_iload dX6_isClear_16 rfl ?_
      refine zJ_bipush (v := nI 64) dX6_isClear_18 rfl ?_
      refine zJ_icmp_ge 70 dX6_isClear_20 (by decide) (fun _ => ?_) (fun c20 => absurd (nI_le (by omega) (by omega)) c20)
      refine zJ_iconst (v := nI 1) dX6_isClear_70 rfl ?_
      refine zJ_zret rfl (by decide) dX6_isClear_71 ?_
      have := hI.1
      simp only [Nat.sub_self, clrM] at this
      rw [← this]
      exact ⟨rfl, rfl⟩
    | succ m ih =>
      intro k hp o hI
      refine zJ_iload dX6_isClear_16 rfl ?_
      refine zJ_bipush (v := nI 64) dX6_isClear_18 rfl ?_
      refine zJ_icmp_ge 70 dX6_isClear_20 (by decide) (fun c20 => absurd c20 (nI_ge (by omega) (by omega))) (fun _ => ?_)
      refine zJ_iload dX6_isClear_23 rfl ?_
      refine zJ_iconst (v := -1) dX6_isClear_25 rfl ?_
      refine zJ_icmp_eq 70 dX6_isClear_26 (by decide) (fun c26 => ?_) (fun c26 => ?_)
      · skip
        refine zJ_iconst (v := nI 1) dX6_isClear_70 rfl ?_
        refine zJ_zret rfl (by decide) dX6_isClear_71 ?_
        have ho : o = none := by
          cases o with
          | none => rfl
          | some q => exact absurd c26 (nI_ne1 (by have := hI.2 q rfl; omega))
        subst ho
        have := hI.1
        rw [show 64 - k = (64 - (k + 1)) + 1 by omega] at this
        simp only [clrM] at this
        rw [← this]
        exact ⟨rfl, rfl⟩
      · skip
        obtain ⟨q, rfl⟩ : ∃ q, o = some q := by cases o with | none => exact absurd rfl c26 | some q => exact ⟨q, rfl⟩
        have hq := hI.2 q rfl
        have hcl := hI.1
        rw [show 64 - k = (64 - (k + 1)) + 1 by omega] at hcl
        simp only [clrM] at hcl
        refine zJ_iload dX6_isClear_29 rfl ?_
        refine zJ_iload dX6_isClear_31 rfl ?_
        refine zJ_icmp_eq 70 dX6_isClear_33 (by decide) (fun c33 => ?_) (fun c33 => ?_)
        · skip
          refine zJ_iconst (v := nI 1) dX6_isClear_70 rfl ?_
          refine zJ_zret rfl (by decide) dX6_isClear_71 ?_
          have e : q = bpn b n 0 := (nI_eq (by omega) (by omega)).mp c33
          rw [if_pos e] at hcl
          rw [← hcl]
          exact ⟨rfl, rfl⟩
        · skip
          refine zJ_aload_n dX6_isClear_36 rfl ?_
          refine zP_getr lf_X6_36 (zSt_ob hs 43 6 rfl) rfl (zSt_rf hs 43 2 41 rfl) dX6_isClear_37 ?_
          refine zJ_aload_n dX6_isClear_40 rfl ?_
          refine zJ_iload dX6_isClear_41 rfl ?_
          refine zP_callVi [_, _] _ lv_X6_114 (k_X9_overAt (d := d - 1) hl (by omega) hs hst hq) (zSt_ob hs 41 9 rfl) rfl (by omega) (Nat.le_of_ble_eq_true rfl) rfl dX6_isClear_43 ?_
          rw [ovr_eq hW hR hq]
          refine zJ_if_le 51 dX6_isClear_46 (by decide) (fun c46 => ?_) (fun c46 => ?_)
          · skip
            refine zJ_aload_n dX6_isClear_51 rfl ?_
            refine zP_getr lf_X6_36 (zSt_ob hs 43 6 rfl) rfl (zSt_rf hs 43 2 41 rfl) dX6_isClear_52 ?_
            refine zJ_aload_n dX6_isClear_55 rfl ?_
            refine zJ_iload_n dX6_isClear_56 rfl ?_
            refine zJ_iload dX6_isClear_57 rfl ?_
            refine zP_callVi [_, _, _] _ lv_X6_135 (k_X9_above (d := d - 1) hl (by omega) hs hst (wok_R hw hR) (bok_W hW) hn hq) (zSt_ob hs 41 9 rfl) rfl (by omega) (Nat.le_of_ble_eq_true rfl) rfl dX6_isClear_59 ?_
            rw [par_eq hw hW hR hn hq]
            refine zJ_istore dX6_isClear_62 (Nat.le_of_ble_eq_true rfl) (by decide) ?_
            refine zJ_iinc1 dX6_isClear_64 rfl (by decide) ?_
            refine zJ_goto 16 dX6_isClear_67 (by decide) ?_
            have e : ¬ q = bpn b n 0 := fun z => c33 (by rw [z]; rfl)
            have h0 : ¬ 0 < ovN b R q := fun z => by have := (nI_leI (b := 0) (by have := usn_le (R := R) (p := q); unfold ovN; omega) (by omega)).mp c46; omega
            rw [if_neg e, if_neg h0] at hcl
            exact ih (k + 1) (by omega) (parM b R n q) ⟨hcl, fun q2 h2 => by unfold parM at h2; split at h2; cases h2; exact nbr_lt hW.1 hq h2⟩
          · skip
            refine zJ_iconst (v := nI 0) dX6_isClear_49 rfl ?_
            refine zJ_zret rfl (by decide) dX6_isClear_50 ?_
            have e : ¬ q = bpn b n 0 := fun z => c33 (by rw [z]; rfl)
            have h0 : 0 < ovN b R q := Nat.pos_of_ne_zero (fun z => c46 (by rw [z]; decide))
            rw [if_neg e, if_pos h0] at hcl
            rw [← hcl]
            exact ⟨rfl, rfl⟩
  refine zJ_aload_n dX6_isClear_0 rfl ?_
  refine zP_getr lf_X6_28 (zSt_ob hs 43 6 rfl) rfl (zSt_rf hs 43 0 3 rfl) dX6_isClear_1 ?_
  refine zJ_iload_n dX6_isClear_4 rfl ?_
  refine zP_callVi [_] _ lv_X6_76 (k_X0_rootOf (d := d - 1) hl (by omega) (zSt_board hs) hn) (zSt_ob hs 3 0 rfl) rfl (by omega) (Nat.le_of_ble_eq_true rfl) rfl dX6_isClear_5 ?_
  rw [hroot]
  refine zJ_istore dX6_isClear_8 (Nat.le_of_ble_eq_true rfl) (by decide) ?_
  refine zJ_iload_n dX6_isClear_10 rfl ?_
  refine zJ_istore dX6_isClear_11 (Nat.le_of_ble_eq_true rfl) (by decide) ?_
  refine zJ_iconst (v := nI 0) dX6_isClear_13 rfl ?_
  refine zJ_istore dX6_isClear_14 (Nat.le_of_ble_eq_true rfl) (by decide) ?_
  exact loop 64 0 (by omega) (some p) ⟨hV, fun q h => by cases h; exact hp⟩
theorem k_X6_markKept (hl : l.stackTraces = false) (hd : 3 ≤ d) (hs : zSt g) {s n : Nat} {b : zWo} {R : Nat → Int32} (hst : zK g s 8 zLt_State) (hsN : 60 < s) (hn : n < 6) (hpc : 0 < bpc b n) (hW : zWi I b) (hR : zRow I s R) (hw : wok R) : zEi l Xi mX6_markKept d [.ref 43, .ref s, .int (nI n)] I g (fun x J => x = nI (cB (kepM b R n) 64) ∧ ∃ f, J = va_up I 48 f ∧ ∀ p, p < 64 → f p = if kepM b R n p then 1 else 0) := by
  refine zC_of hl rfl rfl rfl (Nat.le_of_ble_eq_true rfl) (zav_r (zSt_ob hs 43 6 rfl).1 (zav_r hst.1.1 (zav_i zav_0))) ?_
  have hW2 : ∀ f, zWi (va_up I 48 f) b := fun f => zWi_fX hsN hW (fX_up fX_rfl (by omega))
  have hR2 : ∀ f, zRow (va_up I 48 f) s R := fun f => zRow_of hR (fun a h1 h2 => va_up_row (by omega))
  have loop : ∀ m p, p + m = 64 → ∀ (f : Nat → Int32), (∀ q, q < p → f q = if kepM b R n q then 1 else 0) → zJ l Xi mX6_markKept d 0 0 5 [some (.ref 43), some (.ref s), some (.int (nI n)), some (.int (nI (cB (kepM b R n) p))), some (.int (nI p)), none] [] (va_up I 48 f, g) (fun r' h' => ∃ x I', r' = .inl (some (.int x)) ∧ h' = (I', g) ∧ x = nI (cB (kepM b R n) 64) ∧ ∃ f, I' = va_up I 48 f ∧ ∀ p, p < 64 → f p = if kepM b R n p then 1 else 0) := by
    intro m
    induction m with
    | zero =>
      intro p hp f hI
      obtain rfl : p = 64 := by omega
      refine zJ_iload dX6_markKept_5 rfl ?_
      refine zJ_bipush (v := nI 64) dX6_markKept_7 rfl ?_
      refine zJ_icmp_ge 86 dX6_markKept_9 (by decide) (fun _ => ?_) (fun c9 => absurd (nI_le (by omega) (by omega)) c9)
      refine zJ_iload_n dX6_markKept_86 rfl ?_
      refine zJ_iret rfl dX6_markKept_87 ?_
      exact ⟨_, _, rfl, rfl, rfl, f, rfl, hI⟩
    | succ m ih =>
      intro p hp f hI
      refine zJ_iload dX6_markKept_5 rfl ?_
      refine zJ_bipush (v := nI 64) dX6_markKept_7 rfl ?_
      refine zJ_icmp_ge 86 dX6_markKept_9 (by decide) (fun c9 => absurd c9 (nI_ge (by omega) (by omega))) (fun _ => ?_)
      obtain ⟨hroot, hr64⟩ := root_eq (hW2 f) hn hpc
      have h51 : ∀ v : Bool, kepM b R n p = v → zJ l Xi mX6_markKept d 0 0 51 [some (.ref 43), some (.ref s), some (.int (nI n)), some (.int (nI (cB (kepM b R n) p))), some (.int (nI p)), none] [.int (if v then 1 else 0)] (va_up I 48 f, g) (fun r' h' => ∃ x I', r' = .inl (some (.int x)) ∧ h' = (I', g) ∧ x = nI (cB (kepM b R n) 64) ∧ ∃ f, I' = va_up I 48 f ∧ ∀ p, p < 64 → f p = if kepM b R n p then 1 else 0) := by
        intro v hv
        have hcnt : cB (kepM b R n) (p + 1) = cB (kepM b R n) p + (if v then 1 else 0) := by simp only [cB, hv]
        have IH := ih (p + 1) (by omega) (upd f p (if v then 1 else 0)) (fun q hq => by
          by_cases e : q = p
          · rw [e, upd_at, hv]
          · rw [upd_ne e]; exact hI q (by omega))
        cases v with
        | true =>
          refine zJ_istore dX6_markKept_51 (Nat.le_of_ble_eq_true rfl) (by decide) ?_
          refine zJ_aload_n dX6_markKept_53 rfl ?_
          refine zP_getr lf_X6_25 (zSt_ob hs 43 6 rfl) rfl (zSt_rf hs 43 6 48 rfl) dX6_markKept_54 ?_
          refine zJ_iload dX6_markKept_57 rfl ?_
          refine zJ_iload dX6_markKept_59 rfl ?_
          refine zJ_if_eq 68 dX6_markKept_61 (by decide) (fun c61 => absurd c61 (by decide)) (fun _ => ?_)
          refine zJ_iconst (v := nI 1) dX6_markKept_64 rfl ?_
          refine zJ_goto 69 dX6_markKept_65 (by decide) ?_
          refine zP_iast (zSt_ar hs 48 64 rfl) (by first | assumption | with_reducible exact vp_in_nI (by omega) (by omega) | (simp (disch := omega) only [nI_add, pk_mul, pk_sub, pk_div, pk_rem, nI_clamp]; with_reducible exact vp_in_nI (by omega) (by omega))) dX6_markKept_69 ?_
          refine zJ_iload_n dX6_markKept_70 rfl ?_
          refine zJ_aload_n dX6_markKept_71 rfl ?_
          refine zP_getr lf_X6_25 (zSt_ob hs 43 6 rfl) rfl (zSt_rf hs 43 6 48 rfl) dX6_markKept_72 ?_
          refine zJ_iload dX6_markKept_75 rfl ?_
          refine zP_iald (zSt_ar hs 48 64 rfl) (by first | assumption | with_reducible exact vp_in_nI (by omega) (by omega) | (simp (disch := omega) only [nI_add, pk_mul, pk_sub, pk_div, pk_rem, nI_clamp]; with_reducible exact vp_in_nI (by omega) (by omega))) dX6_markKept_77 ?_
          rw [nI_clamp (by omega), zup_same, upd_at]
          refine zJ_iadd dX6_markKept_78 ?_
          refine zJ_istore_m 3 dX6_markKept_79 rfl (Nat.le_of_ble_eq_true rfl) (by decide) ?_
          refine zJ_iinc1 dX6_markKept_80 rfl (by decide) ?_
          refine zJ_goto 5 dX6_markKept_83 (by decide) ?_
          refine zJ_back (zle_r (zle_r (zle_r (zle_i (by rw [hcnt]; exact (nI_add _ 1).symm) (zle_r (zle_n zle_0)))))) ?_ IH
          rw [zup_va]; rfl
        | false =>
          refine zJ_istore dX6_markKept_51 (Nat.le_of_ble_eq_true rfl) (by decide) ?_
          refine zJ_aload_n dX6_markKept_53 rfl ?_
          refine zP_getr lf_X6_25 (zSt_ob hs 43 6 rfl) rfl (zSt_rf hs 43 6 48 rfl) dX6_markKept_54 ?_
          refine zJ_iload dX6_markKept_57 rfl ?_
          refine zJ_iload dX6_markKept_59 rfl ?_
          refine zJ_if_eq 68 dX6_markKept_61 (by decide) (fun _ => ?_) (fun c61 => absurd rfl c61)
          refine zJ_iconst (v := nI 0) dX6_markKept_68 rfl ?_
          refine zP_iast (zSt_ar hs 48 64 rfl) (by first | assumption | with_reducible exact vp_in_nI (by omega) (by omega) | (simp (disch := omega) only [nI_add, pk_mul, pk_sub, pk_div, pk_rem, nI_clamp]; with_reducible exact vp_in_nI (by omega) (by omega))) dX6_markKept_69 ?_
          refine zJ_iload_n dX6_markKept_70 rfl ?_
          refine zJ_aload_n dX6_markKept_71 rfl ?_
          refine zP_getr lf_X6_25 (zSt_ob hs 43 6 rfl) rfl (zSt_rf hs 43 6 48 rfl) dX6_markKept_72 ?_
          refine zJ_iload dX6_markKept_75 rfl ?_
          refine zP_iald (zSt_ar hs 48 64 rfl) (by first | assumption | with_reducible exact vp_in_nI (by omega) (by omega) | (simp (disch := omega) only [nI_add, pk_mul, pk_sub, pk_div, pk_rem, nI_clamp]; with_reducible exact vp_in_nI (by omega) (by omega))) dX6_markKept_77 ?_
          rw [nI_clamp (by omega), zup_same, upd_at]
          refine zJ_iadd dX6_markKept_78 ?_
          refine zJ_istore_m 3 dX6_markKept_79 rfl (Nat.le_of_ble_eq_true rfl) (by decide) ?_
          refine zJ_iinc1 dX6_markKept_80 rfl (by decide) ?_
          refine zJ_goto 5 dX6_markKept_83 (by decide) ?_
          refine zJ_back (zle_r (zle_r (zle_r (zle_i (by rw [hcnt]; exact (nI_add _ 0).symm) (zle_r (zle_n zle_0)))))) ?_ IH
          rw [zup_va]; rfl
      refine zJ_iload dX6_markKept_12 rfl ?_
      refine zJ_aload_n dX6_markKept_14 rfl ?_
      refine zP_getr lf_X6_28 (zSt_ob hs 43 6 rfl) rfl (zSt_rf hs 43 0 3 rfl) dX6_markKept_15 ?_
      refine zJ_iload_n dX6_markKept_18 rfl ?_
      refine zP_callVi [_] _ lv_X6_76 (k_X0_rootOf (d := d - 1) hl (by omega) (zSt_board hs) hn) (zSt_ob hs 3 0 rfl) rfl (by omega) (Nat.le_of_ble_eq_true rfl) rfl dX6_markKept_19 ?_
      rw [hroot]
      refine zJ_icmp_eq 46 dX6_markKept_22 (by decide) (fun c22 => ?_) (fun c22 => ?_)
      · skip
        refine zJ_iconst (v := nI 1) dX6_markKept_46 rfl ?_
        refine zJ_goto 51 dX6_markKept_47 (by decide) ?_
        have e : p = bpn b n 0 := (nI_eq (by omega) (by omega)).mp c22
        exact h51 true (by simp [kepM, e])
      · skip
        refine zJ_aload_n dX6_markKept_25 rfl ?_
        refine zJ_iload_n dX6_markKept_26 rfl ?_
        refine zJ_iload dX6_markKept_27 rfl ?_
        refine zP_callVi [_, _] _ lv_X6_127 (k_has (d := d - 1) hl (by omega) hst hn (by omega)) hst.1 rfl (by omega) (Nat.le_of_ble_eq_true rfl) rfl dX6_markKept_29 ?_
        rw [zRow_has (hR2 f) hn (by omega)]
        refine zJ_if_eq 50 dX6_markKept_32 (by decide) (fun c32 => ?_) (fun c32 => ?_)
        · replace c32 := zb0.mp c32
          refine zJ_iconst (v := nI 0) dX6_markKept_50 rfl ?_
          have e : ¬ p = bpn b n 0 := fun z => c22 (by rw [z])
          exact h51 false (by simp [kepM, e, c32])
        · replace c32 := zb1.mp c32
          refine zJ_aload_n dX6_markKept_35 rfl ?_
          refine zJ_aload_n dX6_markKept_36 rfl ?_
          refine zJ_iload_n dX6_markKept_37 rfl ?_
          refine zJ_iload dX6_markKept_38 rfl ?_
          refine zP_callVi [_, _, _] _ lv_X6_131 (k_X6_isClear (d := d - 1) hl (by omega) hs hst hn (by omega) hpc (hW2 f) (hR2 f) hw) (zSt_ob hs 43 6 rfl) rfl (by omega) (Nat.le_of_ble_eq_true rfl) rfl dX6_markKept_40 ?_
          refine zJ_if_eq 50 dX6_markKept_43 (by decide) (fun c43 => ?_) (fun c43 => ?_)
          · replace c43 := zb0.mp c43
            refine zJ_iconst (v := nI 0) dX6_markKept_50 rfl ?_
            have e : ¬ p = bpn b n 0 := fun z => c22 (by rw [z])
            exact h51 false (by simp [kepM, e, c43])
          · replace c43 := zb1.mp c43
            refine zJ_iconst (v := nI 1) dX6_markKept_46 rfl ?_
            refine zJ_goto 51 dX6_markKept_47 (by decide) ?_
            exact h51 true (by simp [kepM, c32, c43])
  refine zJ_iconst (v := nI 0) dX6_markKept_0 rfl ?_
  refine zJ_istore_m 3 dX6_markKept_1 rfl (Nat.le_of_ble_eq_true rfl) (by decide) ?_
  refine zJ_iconst (v := nI 0) dX6_markKept_2 rfl ?_
  refine zJ_istore dX6_markKept_3 (Nat.le_of_ble_eq_true rfl) (by decide) ?_
  exact zJ_back (zle_r (zle_r (zle_r (zle_r (zle_r (zle_n zle_0)))))) (by rw [va_up_self2]) (loop 64 0 (by omega) (I 48) (fun q hq => by omega))
theorem f_drop_row {s n p a : Nat} (h1 : a ≠ s + 1) (h2 : a ≠ s + 2) : f_drop I s n p a = I a := by
  unfold f_drop
  split
  · rw [zup_row h1, zup_row h2]
  · rw [zup_row h1]
theorem f_put_row {s n p a : Nat} {w : Int32} (h1 : a ≠ s + 1) (h2 : a ≠ s + 2) : f_put I s n p w a = I a := by
  unfold f_put
  split
  · rw [zup_row h1]
  · rw [zup_row h1, zup_row h2]
def teaN (b : zWo) (R : Nat → Int32) (n p : Nat) : Nat → Int32 := fun k => if n * 64 ≤ k ∧ k < n * 64 + p ∧ kepM b R n (k - n * 64) = false then -1 else R k
theorem k_X6_tearShared (hl : l.stackTraces = false) (hd : 4 ≤ d) (hs : zSt g) {s n : Nat} {b : zWo} {R : Nat → Int32} (hst : zK g s 8 zLt_State) (hsN : 60 < s) (hn : n < 6) (hpc : 0 < bpc b n) (hW : zWi I b) (hR : zRow I s R) (hw : wok R) : zEv l Xi mX6_tearShared d [.ref 43, .ref s, .int (nI n)] I g (fun J => fX s I J ∧ zRow J s (teaM b R n)) := by
  refine zC_of hl rfl rfl rfl (Nat.le_of_ble_eq_true rfl) (zav_r (zSt_ob hs 43 6 rfl).1 (zav_r hst.1.1 (zav_i zav_0))) ?_
  have loop : ∀ m p, p + m = 64 → ∀ (J : zI), (fX s I J ∧ (∀ p, p < 64 → J 48 p = if kepM b R n p then 1 else 0) ∧ zRow J s (teaN b R n p)) → zJ l Xi mX6_tearShared d 0 0 9 [some (.ref 43), some (.ref s), some (.int (nI n)), some (.int (nI p))] [] (J, g) (fun r' h' => r' = .inl none ∧ ∃ I', h' = (I', g) ∧ fX s I I' ∧ zRow I' s (teaM b R n)) := by
    intro m
    induction m with
    | zero =>
      intro p hp J hI
      obtain rfl : p = 64 := by omega
      refine zJ_iload_n dX6_tearShared_9 rfl ?_
      refine zJ_bipush (v := nI 64) dX6_tearShared_10 rfl ?_
      refine zJ_icmp_ge 36 dX6_tearShared_12 (by decide) (fun _ => ?_) (fun c12 => absurd (nI_le (by omega) (by omega)) c12)
      refine zJ_aload_n dX6_tearShared_36 rfl ?_
      refine zJ_iload_n dX6_tearShared_37 rfl ?_
      refine zJ_aload_n dX6_tearShared_38 rfl ?_
      refine zP_getr lf_X6_28 (zSt_ob hs 43 6 rfl) rfl (zSt_rf hs 43 0 3 rfl) dX6_tearShared_39 ?_
      refine zJ_iload_n dX6_tearShared_42 rfl ?_
      have hroot := root_eq (zWi_fX hsN hW hI.1) hn hpc
      refine zP_callVi [_] _ lv_X6_76 (k_X0_rootOf (d := d - 1) hl (by omega) (zSt_board hs) hn) (zSt_ob hs 3 0 rfl) rfl (by omega) (Nat.le_of_ble_eq_true rfl) rfl dX6_tearShared_43 ?_
      rw [hroot.1]
      refine zJ_iconst (v := nI 4) dX6_tearShared_46 rfl ?_
      refine zP_callVv [_, _, _] _ lv_X6_80 (k_X8_put (d := d - 1) hl (by omega) hst hn hroot.2) hst.1 rfl (by omega) (Nat.le_of_ble_eq_true rfl) rfl dX6_tearShared_47 ?_
      refine zJ_vret rfl dX6_tearShared_50 ?_
      exact ⟨rfl, _, rfl, fX_put hI.1, zRow_put hn hroot.2 (by decide) hI.2.2⟩
    | succ m ih =>
      intro p hp J hI
      refine zJ_iload_n dX6_tearShared_9 rfl ?_
      refine zJ_bipush (v := nI 64) dX6_tearShared_10 rfl ?_
      refine zJ_icmp_ge 36 dX6_tearShared_12 (by decide) (fun c12 => absurd c12 (nI_ge (by omega) (by omega))) (fun _ => ?_)
      refine zJ_aload_n dX6_tearShared_15 rfl ?_
      refine zP_getr lf_X6_25 (zSt_ob hs 43 6 rfl) rfl (zSt_rf hs 43 6 48 rfl) dX6_tearShared_16 ?_
      refine zJ_iload_n dX6_tearShared_19 rfl ?_
      refine zP_iald (zSt_ar hs 48 64 rfl) (by first | assumption | with_reducible exact vp_in_nI (by omega) (by omega) | (simp (disch := omega) only [nI_add, pk_mul, pk_sub, pk_div, pk_rem, nI_clamp]; with_reducible exact vp_in_nI (by omega) (by omega))) dX6_tearShared_20 ?_
      rw [nI_clamp (by omega), hI.2.1 p (by omega)]
      refine zJ_if_ne 30 dX6_tearShared_21 (by decide) (fun c21 => ?_) (fun c21 => ?_)
      · skip
        refine zJ_iinc1 dX6_tearShared_30 rfl (by decide) ?_
        refine zJ_goto 9 dX6_tearShared_33 (by decide) ?_
        have hk : kepM b R n p = true := by
          cases e : kepM b R n p with
          | true => rfl
          | false => rw [e] at c21; exact absurd rfl c21
        refine ih (p + 1) (by omega) J ⟨hI.1, hI.2.1, ?_⟩
        rw [show teaN b R n (p + 1) = teaN b R n p by
          funext k
          unfold teaN
          by_cases e : k = n * 64 + p
          · rw [e, Nat.add_sub_cancel_left, hk]; simp
          · by_cases h : n * 64 ≤ k ∧ k < n * 64 + p ∧ kepM b R n (k - n * 64) = false
            · rw [if_pos h, if_pos ⟨h.1, by omega, h.2.2⟩]
            · rw [if_neg h, if_neg (fun z => h ⟨z.1, by omega, z.2.2⟩)]]
        exact hI.2.2
      · skip
        refine zJ_aload_n dX6_tearShared_24 rfl ?_
        refine zJ_iload_n dX6_tearShared_25 rfl ?_
        refine zJ_iload_n dX6_tearShared_26 rfl ?_
        refine zP_callVv [_, _] _ lv_X6_123 (k_X8_drop (d := d - 1) hl (by omega) hst hn (by omega)) hst.1 rfl (by omega) (Nat.le_of_ble_eq_true rfl) rfl dX6_tearShared_27 ?_
        refine zJ_iinc1 dX6_tearShared_30 rfl (by decide) ?_
        refine zJ_goto 9 dX6_tearShared_33 (by decide) ?_
        have hk : kepM b R n p = false := by
          cases e : kepM b R n p with
          | false => rfl
          | true => rw [e] at c21; exact absurd c21 (by decide)
        refine ih (p + 1) (by omega) _ ⟨fX_drop hI.1, fun q hq => by rw [f_drop_row (by omega) (by omega)]; exact hI.2.1 q hq, ?_⟩
        rw [show teaN b R n (p + 1) = upd (teaN b R n p) (n * 64 + p) (-1) by
          funext k
          by_cases e : k = n * 64 + p
          · rw [e, upd_at]; unfold teaN; rw [if_pos ⟨by omega, by omega, by rw [Nat.add_sub_cancel_left]; exact hk⟩]
          · rw [upd_ne e]
            unfold teaN
            by_cases h : n * 64 ≤ k ∧ k < n * 64 + p ∧ kepM b R n (k - n * 64) = false
            · rw [if_pos h, if_pos ⟨h.1, by omega, h.2.2⟩]
            · rw [if_neg h, if_neg (fun z => h ⟨z.1, by omega, z.2.2⟩)]]
        exact zRow_drop hn (by omega) hI.2.2
  refine zJ_aload_n dX6_tearShared_0 rfl ?_
  refine zJ_aload_n dX6_tearShared_1 rfl ?_
  refine zJ_iload_n dX6_tearShared_2 rfl ?_
  refine zP_ecallVi [_, _] _ lv_X6_120 (k_X6_markKept (d := d - 1) hl (by omega) hs hst hsN hn hpc hW hR hw) (zSt_ob hs 43 6 rfl) rfl (by omega) (Nat.le_of_ble_eq_true rfl) rfl dX6_tearShared_3 (fun x J hx => ?_)
  refine zJ_pop dX6_tearShared_6 rfl ?_
  refine zJ_iconst (v := nI 0) dX6_tearShared_7 rfl ?_
  refine zJ_istore_m 3 dX6_tearShared_8 rfl (Nat.le_of_ble_eq_true rfl) (by decide) ?_
  obtain ⟨-, f, rfl, hf⟩ := hx
  refine loop 64 0 (by omega) _ ⟨fX_up fX_rfl (by omega), fun p hp => by rw [va_up_same]; exact hf p hp, ?_⟩
  rw [show teaN b R n 0 = R by
    funext k
    unfold teaN
    rw [if_neg (by omega)]]
  exact zRow_of hR (fun a h1 h2 => va_up_row (by omega))
end ZRouter
