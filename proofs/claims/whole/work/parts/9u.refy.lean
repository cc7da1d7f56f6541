/-! ===== the reference: jam, ahead, tree, meet, dear, shed ===== -/
section ZRefY
variable {l : Launch} {Xi : zXi} {d : Nat} {I : zI} {g : zG}
theorem rB_rQ {J : zI} {b : zWo} (hB : rB I b) (hJ : rQ I J) : rB J b := rB_of hB (hJ.2 20 (by decide) (by decide)) (fun a q => hJ.1 a (by omega) (by omega) (by omega) (by omega) (by omega) (by omega))
theorem m_jam (hl : l.stackTraces = false) (hd : 12 ≤ d) (hs : zSt g) {S : sT} (hI : rI I S) (hok : okS S) {y : Nat} (hy : y < bR S.2.1) : zEi l Xi mX13_jam d [.ref 74, .int (nI y)] I g (fun v J => v = bitF (fun x => ovQ S.2.1 (goA S.2.1 S.2.2.1 40) (y * 8 + x)) (bC S.2.1) ∧ J 74 0 = nI 0 ∧ rQ I J) := by
  refine zC_of hl rfl rfl rfl (Nat.le_of_ble_eq_true rfl) (zav_r (zSt_ob hs 74 13 rfl).1 (zav_i zav_0)) ?_
  have hI0 := rI_rQ hI (rQ_thr (x := nI 0))
  have hB0 := hI0.2.2.1
  have hR0 := hI0.2.2.2.1
  have hb := hB0.1
  have hN6 := hb.2.2.2.2.1
  have hC8 := hb.2.1
  have hR8 := hb.2.2.2.1
  have ha := zSt_ar hs 533 519 rfl
  have ha2 := zSt_ar hs 534 519 rfl
  have hgo := it_go hb hok.1 hok.2.1 (k := 40)
  have hokQ : okR S.2.1 (itR S.2.1 S.2.2.1 40) := okR_it hb hok.1 hok.2.1
  have hbe : bitF (fun x => ovQ S.2.1 (goA S.2.1 S.2.2.1 40) (y * 8 + x)) (bC S.2.1) = bitF (fun x => ovQ S.2.1 (itR S.2.1 S.2.2.1 40) (y * 8 + x)) (bC S.2.1) := bitF_congr (fun x hx => (eqD_ovQ hgo.1 (by omega)).symm)
  rw [hbe]
  refine zJ_aload_n dX13_jam_0 rfl ?_
  refine zJ_iconst (v := nI 0) dX13_jam_1 rfl ?_
  refine zP_puti lf_X13_107 (zSt_ob hs 74 13 rfl) rfl dX13_jam_2 ?_
  refine zJ_aload_n dX13_jam_5 rfl ?_
  refine zJ_iload_n dX13_jam_6 rfl ?_
  refine zJ_iconst (v := nI 0) dX13_jam_7 rfl ?_
  refine zJ_aload_n dX13_jam_8 rfl ?_
  refine zP_getr lf_X13_23 (zSt_ob hs 74 13 rfl) rfl (zSt_rf hs 74 12 78 rfl) dX13_jam_9 ?_
  refine zJ_iconst (v := nI 1) dX13_jam_12 rfl ?_
  refine zP_iald (zSt_ar hs 78 4 rfl) (by first | assumption | with_reducible exact vp_in_nI (by omega) (by omega) | (simp (disch := omega) only [nI_add, pk_mul, pk_sub, pk_div, pk_rem, nI_clamp]; with_reducible exact vp_in_nI (by omega) (by omega))) dX13_jam_13 ?_
  rw [nI_clamp (by omega), hB0.2.1.2.1]
  refine zJ_iconst (v := nI 1) dX13_jam_14 rfl ?_
  refine zJ_isub dX13_jam_15 ?_
  refine zP_callSi [_, _, _] _ ls_X13_141 (k_in (d := d - 1) hl (by omega)) rfl (by omega) (Nat.le_of_ble_eq_true rfl) rfl dX13_jam_16 ?_
  rw [qRow_eq hB0.1, qRow_ok hb hy]
  refine zJ_if_ne 26 dX13_jam_19 (by decide) (fun _ => ?_) (fun c19 => absurd c19 (by decide))
  refine zJ_iconst (v := nI 0) dX13_jam_26 rfl ?_
  refine zJ_iconst (v := nI 1) dX13_jam_27 rfl ?_
  refine zJ_iconst (v := nI 0) dX13_jam_28 rfl ?_
  refine zP_callVi [_, _, _] _ lv_X13_186 (m_badF (d := d - 1) hl (by omega) hs thr_at) (zSt_ob hs 74 13 rfl) rfl (by omega) (Nat.le_of_ble_eq_true rfl) rfl dX13_jam_29 ?_
  refine zJ_if_eq 37 dX13_jam_32 (by decide) (fun _ => ?_) (fun c32 => absurd rfl c32)
  refine zJ_aload_n dX13_jam_37 rfl ?_
  refine zJ_bipush (v := nI 40) dX13_jam_38 rfl ?_
  refine zP_ecallVv [_] _ lv_X13_421 (m_goesOn (d := d - 1) (w := 40) hl (by omega) hs hB0 hR0 hok.2.1 hok.1 (by omega)) (zSt_ob hs 74 13 rfl) rfl (by omega) (Nat.le_of_ble_eq_true rfl) rfl dX13_jam_40 (fun J h => ?_)
  refine zJ_iconst (v := nI 0) dX13_jam_43 rfl ?_
  refine zJ_istore_m 2 dX13_jam_44 rfl (Nat.le_of_ble_eq_true rfl) (by decide) ?_
  refine zJ_iconst (v := nI 0) dX13_jam_45 rfl ?_
  refine zJ_istore_m 3 dX13_jam_46 rfl (Nat.le_of_ble_eq_true rfl) (by decide) ?_
  obtain ⟨h1, h2⟩ := h
  have hJ0 : J 74 0 = nI 0 := by rw [h1 74 (by decide) (by decide) (by decide) (by decide) (by decide) (by decide)]; exact thr_at
  have hJQ : rQ I J := rQ_trans rQ_thr (rQ_rS (by omega) h1)
  have hBJ : rB J S.2.1 := rB_rQ hI.2.2.1 hJQ
  have hCC : J 78 (nI 0).toNatClampNeg = nI (bC S.2.1) := by rw [nI_clamp (by omega)]; exact hBJ.2.1.1
  obtain ⟨Q, hQ⟩ : ∃ Q, itR S.2.1 S.2.2.1 40 = Q := ⟨_, rfl⟩
  rw [hQ] at h2 hokQ ⊢
  obtain ⟨f, hff⟩ : ∃ f : Nat → Bool, (fun x => ovQ S.2.1 Q (y * 8 + x)) = f := ⟨_, rfl⟩
  rw [hff]
  have hfx : ∀ x, f x = ovQ S.2.1 Q (y * 8 + x) := fun x => by rw [← hff]
  have loop : ∀ m x, x + m = bC S.2.1 → zJ l Xi mX13_jam d 0 0 47 [some (.ref 74), some (.int (nI y)), some (.int (bitF f x)), some (.int (nI x))] [] (J, g) (fun r' h' => ∃ x I', r' = .inl (some (.int x)) ∧ h' = (I', g) ∧ x = bitF f (bC S.2.1) ∧ I' 74 0 = nI 0 ∧ rQ I I') := by
    intro m
    induction m with
    | zero =>
      intro x hp
      obtain rfl : x = bC S.2.1 := by omega
      refine zJ_iload_n dX13_jam_47 rfl ?_
      refine zJ_aload_n dX13_jam_48 rfl ?_
      refine zP_getr lf_X13_23 (zSt_ob hs 74 13 rfl) rfl (zSt_rf hs 74 12 78 rfl) dX13_jam_49 ?_
      refine zJ_iconst (v := nI 0) dX13_jam_52 rfl ?_
      refine zP_iald (zSt_ar hs 78 4 rfl) (by first | assumption | with_reducible exact vp_in_nI (by omega) (by omega) | (simp (disch := omega) only [nI_add, pk_mul, pk_sub, pk_div, pk_rem, nI_clamp]; with_reducible exact vp_in_nI (by omega) (by omega))) dX13_jam_53 ?_
      refine zJ_icmp_ge 90 dX13_jam_54 (by decide) (fun _ => ?_) (fun c54 => absurd (by rw [hCC]; exact nI_le (by omega) (by omega)) c54)
      refine zJ_iload_n dX13_jam_90 rfl ?_
      refine zJ_iret rfl dX13_jam_91 ?_
      exact ⟨_, J, rfl, rfl, rfl, hJ0, hJQ⟩
    | succ m ih =>
      intro x hp
      refine zJ_iload_n dX13_jam_47 rfl ?_
      refine zJ_aload_n dX13_jam_48 rfl ?_
      refine zP_getr lf_X13_23 (zSt_ob hs 74 13 rfl) rfl (zSt_rf hs 74 12 78 rfl) dX13_jam_49 ?_
      refine zJ_iconst (v := nI 0) dX13_jam_52 rfl ?_
      refine zP_iald (zSt_ar hs 78 4 rfl) (by first | assumption | with_reducible exact vp_in_nI (by omega) (by omega) | (simp (disch := omega) only [nI_add, pk_mul, pk_sub, pk_div, pk_rem, nI_clamp]; with_reducible exact vp_in_nI (by omega) (by omega))) dX13_jam_53 ?_
      refine zJ_icmp_ge 90 dX13_jam_54 (by decide) (fun c54 => absurd c54 (by rw [hCC]; exact nI_ge (by omega) (by omega))) (fun _ => ?_)
      refine zJ_iload_n dX13_jam_57 rfl ?_
      refine zJ_aload_n dX13_jam_58 rfl ?_
      refine zJ_aload_n dX13_jam_59 rfl ?_
      refine zP_getr lf_X13_73 (zSt_ob hs 74 13 rfl) rfl (zSt_rf hs 74 31 534 rfl) dX13_jam_60 ?_
      refine zJ_bipush (v := nI 8) dX13_jam_63 rfl ?_
      refine zJ_iload_n dX13_jam_65 rfl ?_
      refine zJ_imul dX13_jam_66 ?_
      refine zJ_iload_n dX13_jam_67 rfl ?_
      refine zJ_iadd dX13_jam_68 ?_
      rw [pk_mul, nI_add, Nat.mul_comm]
      refine zP_callVi [_, _] _ lv_X13_335 (k_over (d := d - 1) hl (by omega) hs hBJ ha2 h2 hokQ (by omega)) (zSt_ob hs 74 13 rfl) rfl (by omega) (Nat.le_of_ble_eq_true rfl) rfl dX13_jam_69 ?_
      refine zJ_if_le 81 dX13_jam_72 (by decide) (fun c72 => ?_) (fun c72 => ?_)
      · skip
        refine zJ_iconst (v := nI 0) dX13_jam_81 rfl ?_
        refine zJ_ior dX13_jam_82 ?_
        refine zJ_istore_m 2 dX13_jam_83 rfl (Nat.le_of_ble_eq_true rfl) (by decide) ?_
        refine zJ_iinc1 dX13_jam_84 rfl (by decide) ?_
        refine zJ_goto 47 dX13_jam_87 (by decide) ?_
        have e : f x = false := (hfx x).trans <| decide_eq_false (fun z => absurd c72 (nI_nle z (Nat.lt_of_le_of_lt (Nat.sub_le _ _) (Nat.lt_of_le_of_lt usn_le (by decide)))))
        refine zJ_back (zle_r (zle_r (zle_i ?_ (zle_r zle_0)))) rfl (ih (x + 1) (by omega))
        rw [← bitF_no e]; simp [nI0]
      · skip
        refine zJ_iconst (v := nI 1) dX13_jam_75 rfl ?_
        refine zJ_iload_n dX13_jam_76 rfl ?_
        refine zJ_ishl dX13_jam_77 ?_
        refine zJ_goto 82 dX13_jam_78 (by decide) ?_
        refine zJ_ior dX13_jam_82 ?_
        refine zJ_istore_m 2 dX13_jam_83 rfl (Nat.le_of_ble_eq_true rfl) (by decide) ?_
        refine zJ_iinc1 dX13_jam_84 rfl (by decide) ?_
        refine zJ_goto 47 dX13_jam_87 (by decide) ?_
        have e : f x = true := (hfx x).trans <| decide_eq_true (Nat.pos_of_ne_zero (fun z => c72 (by rw [z]; decide)))
        exact zJ_back (zle_r (zle_r (zle_i (bitF_yes e).symm (zle_r zle_0)))) rfl (ih (x + 1) (by omega))
  exact loop (bC S.2.1) 0 (by omega)
theorem m_ahead (hl : l.stackTraces = false) (hd : 12 ≤ d) (hs : zSt g) {S : sT} (hI : rI I S) (hok : okS S) {n k : Nat} (hn : n ≤ 40) (hk : k ≤ 3) : zEi l Xi mX13_ahead d [.ref 74, .int (nI n), .int (nI k)] I g (fun v J => v = ahdV S.2.1 (goA S.2.1 S.2.2.1 n) k ∧ J 74 0 = nI 0 ∧ rQ I J) := by
  refine zC_of hl rfl rfl rfl (Nat.le_of_ble_eq_true rfl) (zav_r (zSt_ob hs 74 13 rfl).1 (zav_i (zav_i zav_0))) ?_
  have hI0 := rI_rQ hI (rQ_thr (x := nI 0))
  have hB0 := hI0.2.2.1
  have hR0 := hI0.2.2.2.1
  have hb := hB0.1
  have hN6 := hb.2.2.2.2.1
  have hC8 := hb.2.1
  have hR8 := hb.2.2.2.1
  have ha := zSt_ar hs 533 519 rfl
  have ha2 := zSt_ar hs 534 519 rfl
  have hgo := it_go hb hok.1 hok.2.1 (k := n)
  have hokQ : okR S.2.1 (itR S.2.1 S.2.2.1 n) := okR_it hb hok.1 hok.2.1
  have hbe : ahdV S.2.1 (goA S.2.1 S.2.2.1 n) k = ahdV S.2.1 (itR S.2.1 S.2.2.1 n) k := by
    unfold ahdV
    rw [eqD_over hgo.1, eqD_join hb hgo.1, eqD_uses hgo.1, eqD_his hgo.1]
  rw [hbe]
  refine zJ_aload_n dX13_ahead_0 rfl ?_
  refine zJ_iconst (v := nI 0) dX13_ahead_1 rfl ?_
  refine zP_puti lf_X13_107 (zSt_ob hs 74 13 rfl) rfl dX13_ahead_2 ?_
  refine zJ_aload_n dX13_ahead_5 rfl ?_
  refine zJ_iload_n dX13_ahead_6 rfl ?_
  refine zJ_iconst (v := nI 0) dX13_ahead_7 rfl ?_
  refine zJ_bipush (v := nI 40) dX13_ahead_8 rfl ?_
  refine zP_callSi [_, _, _] _ ls_X13_141 (k_in (d := d - 1) hl (by omega)) rfl (by omega) (Nat.le_of_ble_eq_true rfl) rfl dX13_ahead_10 ?_
  rw [show decide (¬ (nI n) < (nI 0) ∧ (nI n) ≤ (nI 40)) = true from in_ok (by omega) (by omega) (by omega)]
  refine zJ_if_eq 25 dX13_ahead_13 (by decide) (fun c13 => absurd c13 (by decide)) (fun _ => ?_)
  refine zJ_iload_n dX13_ahead_16 rfl ?_
  refine zJ_iconst (v := nI 0) dX13_ahead_17 rfl ?_
  refine zJ_iconst (v := nI 3) dX13_ahead_18 rfl ?_
  refine zP_callSi [_, _, _] _ ls_X13_141 (k_in (d := d - 1) hl (by omega)) rfl (by omega) (Nat.le_of_ble_eq_true rfl) rfl dX13_ahead_19 ?_
  rw [show decide (¬ (nI k) < (nI 0) ∧ (nI k) ≤ (nI 3)) = true from in_ok (by omega) (by omega) (by omega)]
  refine zJ_if_ne 29 dX13_ahead_22 (by decide) (fun _ => ?_) (fun c22 => absurd c22 (by decide))
  refine zJ_iconst (v := nI 0) dX13_ahead_29 rfl ?_
  refine zJ_iconst (v := nI 1) dX13_ahead_30 rfl ?_
  refine zJ_iconst (v := nI 1) dX13_ahead_31 rfl ?_
  refine zP_callVi [_, _, _] _ lv_X13_186 (m_badF (d := d - 1) hl (by omega) hs thr_at) (zSt_ob hs 74 13 rfl) rfl (by omega) (Nat.le_of_ble_eq_true rfl) rfl dX13_ahead_32 ?_
  refine zJ_if_eq 40 dX13_ahead_35 (by decide) (fun _ => ?_) (fun c35 => absurd rfl c35)
  refine zJ_aload_n dX13_ahead_40 rfl ?_
  refine zJ_iload_n dX13_ahead_41 rfl ?_
  refine zP_ecallVv [_] _ lv_X13_421 (m_goesOn (d := d - 1) (w := n) hl (by omega) hs hB0 hR0 hok.2.1 hok.1 (by omega)) (zSt_ob hs 74 13 rfl) rfl (by omega) (Nat.le_of_ble_eq_true rfl) rfl dX13_ahead_42 (fun J h => ?_)
  obtain ⟨h1, h2⟩ := h
  have hJ0 : J 74 0 = nI 0 := by rw [h1 74 (by decide) (by decide) (by decide) (by decide) (by decide) (by decide)]; exact thr_at
  have hJQ : rQ I J := rQ_trans rQ_thr (rQ_rS (by omega) h1)
  have hBJ : rB J S.2.1 := rB_rQ hI.2.2.1 hJQ
  have hkk : k = 0 ∨ k = 1 ∨ k = 2 ∨ k = 3 := by omega
  rcases hkk with rfl | rfl | rfl | rfl
  · skip
    refine zJ_iload_n dX13_ahead_45 rfl ?_
    refine zJ_if_ne 60 dX13_ahead_46 (by decide) (fun c46 => absurd rfl c46) (fun _ => ?_)
    refine zJ_aload_n dX13_ahead_49 rfl ?_
    refine zJ_aload_n dX13_ahead_50 rfl ?_
    refine zP_getr lf_X13_73 (zSt_ob hs 74 13 rfl) rfl (zSt_rf hs 74 31 534 rfl) dX13_ahead_51 ?_
    refine zP_callVi [_] _ lv_X13_387 (m_overs (d := d - 1) hl (by omega) hs hBJ ha2 h2 hokQ) (zSt_ob hs 74 13 rfl) rfl (by omega) (Nat.le_of_ble_eq_true rfl) rfl dX13_ahead_54 ?_
    refine zJ_goto 102 dX13_ahead_57 (by decide) ?_
    refine zJ_iret rfl dX13_ahead_102 ?_
    exact ⟨_, J, rfl, rfl, rfl, hJ0, hJQ⟩
  · skip
    refine zJ_iload_n dX13_ahead_45 rfl ?_
    refine zJ_if_ne 60 dX13_ahead_46 (by decide) (fun _ => ?_) (fun c46 => absurd c46 (by decide))
    refine zJ_iload_n dX13_ahead_60 rfl ?_
    refine zJ_iconst (v := nI 1) dX13_ahead_61 rfl ?_
    refine zJ_icmp_ne 76 dX13_ahead_62 (by decide) (fun c62 => absurd rfl c62) (fun _ => ?_)
    refine zJ_aload_n dX13_ahead_65 rfl ?_
    refine zJ_aload_n dX13_ahead_66 rfl ?_
    refine zP_getr lf_X13_73 (zSt_ob hs 74 13 rfl) rfl (zSt_rf hs 74 31 534 rfl) dX13_ahead_67 ?_
    refine zP_callVi [_] _ lv_X13_383 (m_joinedOnes (d := d - 1) hl (by omega) hs hBJ ha2 h2) (zSt_ob hs 74 13 rfl) rfl (by omega) (Nat.le_of_ble_eq_true rfl) rfl dX13_ahead_70 ?_
    refine zJ_goto 102 dX13_ahead_73 (by decide) ?_
    refine zJ_iret rfl dX13_ahead_102 ?_
    exact ⟨_, J, rfl, rfl, rfl, hJ0, hJQ⟩
  · skip
    refine zJ_iload_n dX13_ahead_45 rfl ?_
    refine zJ_if_ne 60 dX13_ahead_46 (by decide) (fun _ => ?_) (fun c46 => absurd c46 (by decide))
    refine zJ_iload_n dX13_ahead_60 rfl ?_
    refine zJ_iconst (v := nI 1) dX13_ahead_61 rfl ?_
    refine zJ_icmp_ne 76 dX13_ahead_62 (by decide) (fun _ => ?_) (fun c62 => absurd c62 (by decide))
    refine zJ_iload_n dX13_ahead_76 rfl ?_
    refine zJ_iconst (v := nI 2) dX13_ahead_77 rfl ?_
    refine zJ_icmp_ne 92 dX13_ahead_78 (by decide) (fun c78 => absurd rfl c78) (fun _ => ?_)
    refine zJ_aload_n dX13_ahead_81 rfl ?_
    refine zJ_aload_n dX13_ahead_82 rfl ?_
    refine zP_getr lf_X13_73 (zSt_ob hs 74 13 rfl) rfl (zSt_rf hs 74 31 534 rfl) dX13_ahead_83 ?_
    refine zP_callVi [_] _ lv_X13_403 (m_placesOfAll (d := d - 1) hl (by omega) hs hBJ ha2 h2 hokQ) (zSt_ob hs 74 13 rfl) rfl (by omega) (Nat.le_of_ble_eq_true rfl) rfl dX13_ahead_86 ?_
    refine zJ_goto 102 dX13_ahead_89 (by decide) ?_
    refine zJ_iret rfl dX13_ahead_102 ?_
    exact ⟨_, J, rfl, rfl, rfl, hJ0, hJQ⟩
  · skip
    refine zJ_iload_n dX13_ahead_45 rfl ?_
    refine zJ_if_ne 60 dX13_ahead_46 (by decide) (fun _ => ?_) (fun c46 => absurd c46 (by decide))
    refine zJ_iload_n dX13_ahead_60 rfl ?_
    refine zJ_iconst (v := nI 1) dX13_ahead_61 rfl ?_
    refine zJ_icmp_ne 76 dX13_ahead_62 (by decide) (fun _ => ?_) (fun c62 => absurd c62 (by decide))
    refine zJ_iload_n dX13_ahead_76 rfl ?_
    refine zJ_iconst (v := nI 2) dX13_ahead_77 rfl ?_
    refine zJ_icmp_ne 92 dX13_ahead_78 (by decide) (fun _ => ?_) (fun c78 => absurd c78 (by decide))
    refine zJ_aload_n dX13_ahead_92 rfl ?_
    refine zP_getr lf_X13_73 (zSt_ob hs 74 13 rfl) rfl (zSt_rf hs 74 31 534 rfl) dX13_ahead_93 ?_
    refine zJ_sipush (v := nI 384) dX13_ahead_96 rfl ?_
    refine zP_callSi [_, _] _ ls_X13_406 (m_sumOf (d := d - 1) (k := 384) hl (by omega) ha2 h2 (by omega)) rfl (by omega) (Nat.le_of_ble_eq_true rfl) rfl dX13_ahead_99 ?_
    refine zJ_iret rfl dX13_ahead_102 ?_
    exact ⟨_, J, rfl, rfl, rfl, hJ0, hJQ⟩
theorem m_tree (hl : l.stackTraces = false) (hd : 12 ≤ d) (hs : zSt g) {S : sT} (hI : rI I S) (hok : okS S) {n y : Nat} (hn : n < bN S.2.1) (hy : y < bR S.2.1) : zEi l Xi mX13_tree d [.ref 74, .int (nI n), .int (nI y)] I g (fun v J => v = bitF (fun x => tin S.2.2.1 n (y * 8 + x)) (bC S.2.1) ∧ J 74 0 = nI 0 ∧ rQ I J) := by
  refine zC_of hl rfl rfl rfl (Nat.le_of_ble_eq_true rfl) (zav_r (zSt_ob hs 74 13 rfl).1 (zav_i (zav_i zav_0))) ?_
  have hI0 := rI_rQ hI (rQ_thr (x := nI 0))
  have hB0 := hI0.2.2.1
  have hR0 := hI0.2.2.2.1
  have hb := hB0.1
  have hN6 := hb.2.2.2.2.1
  have hC8 := hb.2.1
  have hR8 := hb.2.2.2.1
  have ha := zSt_ar hs 533 519 rfl
  obtain ⟨f, hff⟩ : ∃ f : Nat → Bool, (fun x => tin S.2.2.1 n (y * 8 + x)) = f := ⟨_, rfl⟩
  rw [hff]
  have hfx : ∀ x, f x = tin S.2.2.1 n (y * 8 + x) := fun x => by rw [← hff]
  refine zJ_aload_n dX13_tree_0 rfl ?_
  refine zJ_iconst (v := nI 0) dX13_tree_1 rfl ?_
  refine zP_puti lf_X13_107 (zSt_ob hs 74 13 rfl) rfl dX13_tree_2 ?_
  refine zJ_aload_n dX13_tree_5 rfl ?_
  refine zJ_aload_n dX13_tree_6 rfl ?_
  refine zJ_iload_n dX13_tree_7 rfl ?_
  refine zP_callVi [_] _ lv_X13_412 (m_isNet (d := d - 1) hl (by omega) hs hB0) (zSt_ob hs 74 13 rfl) rfl (by omega) (Nat.le_of_ble_eq_true rfl) rfl dX13_tree_8 ?_
  rw [qNet_ok hb hn]
  refine zJ_if_eq 30 dX13_tree_11 (by decide) (fun c11 => absurd c11 (by decide)) (fun _ => ?_)
  refine zJ_iload_n dX13_tree_14 rfl ?_
  refine zJ_iconst (v := nI 0) dX13_tree_15 rfl ?_
  refine zJ_aload_n dX13_tree_16 rfl ?_
  refine zP_getr lf_X13_23 (zSt_ob hs 74 13 rfl) rfl (zSt_rf hs 74 12 78 rfl) dX13_tree_17 ?_
  refine zJ_iconst (v := nI 1) dX13_tree_20 rfl ?_
  refine zP_iald (zSt_ar hs 78 4 rfl) (by first | assumption | with_reducible exact vp_in_nI (by omega) (by omega) | (simp (disch := omega) only [nI_add, pk_mul, pk_sub, pk_div, pk_rem, nI_clamp]; with_reducible exact vp_in_nI (by omega) (by omega))) dX13_tree_21 ?_
  rw [nI_clamp (by omega), hB0.2.1.2.1]
  refine zJ_iconst (v := nI 1) dX13_tree_22 rfl ?_
  refine zJ_isub dX13_tree_23 ?_
  refine zP_callSi [_, _, _] _ ls_X13_141 (k_in (d := d - 1) hl (by omega)) rfl (by omega) (Nat.le_of_ble_eq_true rfl) rfl dX13_tree_24 ?_
  rw [qRow_eq hB0.1, qRow_ok hb hy]
  refine zJ_if_ne 34 dX13_tree_27 (by decide) (fun _ => ?_) (fun c27 => absurd c27 (by decide))
  refine zJ_iconst (v := nI 0) dX13_tree_34 rfl ?_
  refine zJ_iconst (v := nI 1) dX13_tree_35 rfl ?_
  refine zJ_iconst (v := nI 0) dX13_tree_36 rfl ?_
  refine zP_callVi [_, _, _] _ lv_X13_186 (m_badF (d := d - 1) hl (by omega) hs thr_at) (zSt_ob hs 74 13 rfl) rfl (by omega) (Nat.le_of_ble_eq_true rfl) rfl dX13_tree_37 ?_
  refine zJ_if_eq 45 dX13_tree_40 (by decide) (fun _ => ?_) (fun c40 => absurd rfl c40)
  refine zJ_iconst (v := nI 0) dX13_tree_45 rfl ?_
  refine zJ_istore_m 3 dX13_tree_46 rfl (Nat.le_of_ble_eq_true rfl) (by decide) ?_
  refine zJ_iconst (v := nI 0) dX13_tree_47 rfl ?_
  refine zJ_istore dX13_tree_48 (Nat.le_of_ble_eq_true rfl) (by decide) ?_
  obtain ⟨J, hJ⟩ : ∃ J, zup I 74 0 (nI 0) = J := ⟨_, rfl⟩
  have hJ0 : J 74 0 = nI 0 := by rw [← hJ]; exact thr_at
  have hJQ : rQ I J := by rw [← hJ]; exact rQ_thr
  rw [hJ] at hB0 hR0 ⊢
  have hCC : J 78 (nI 0).toNatClampNeg = nI (bC S.2.1) := by rw [nI_clamp (by omega)]; exact hB0.2.1.1
  have loop : ∀ m x, x + m = bC S.2.1 → zJ l Xi mX13_tree d 0 0 50 [some (.ref 74), some (.int (nI n)), some (.int (nI y)), some (.int (bitF f x)), some (.int (nI x))] [] (J, g) (fun r' h' => ∃ x I', r' = .inl (some (.int x)) ∧ h' = (I', g) ∧ x = bitF f (bC S.2.1) ∧ I' 74 0 = nI 0 ∧ rQ I I') := by
    intro m
    induction m with
    | zero =>
      intro x hp
      obtain rfl : x = bC S.2.1 := by omega
      refine zJ_iload dX13_tree_50 rfl ?_
      refine zJ_aload_n dX13_tree_52 rfl ?_
      refine zP_getr lf_X13_23 (zSt_ob hs 74 13 rfl) rfl (zSt_rf hs 74 12 78 rfl) dX13_tree_53 ?_
      refine zJ_iconst (v := nI 0) dX13_tree_56 rfl ?_
      refine zP_iald (zSt_ar hs 78 4 rfl) (by first | assumption | with_reducible exact vp_in_nI (by omega) (by omega) | (simp (disch := omega) only [nI_add, pk_mul, pk_sub, pk_div, pk_rem, nI_clamp]; with_reducible exact vp_in_nI (by omega) (by omega))) dX13_tree_57 ?_
      refine zJ_icmp_ge 96 dX13_tree_58 (by decide) (fun _ => ?_) (fun c58 => absurd (by rw [hCC]; exact nI_le (by omega) (by omega)) c58)
      refine zJ_iload_n dX13_tree_96 rfl ?_
      refine zJ_iret rfl dX13_tree_97 ?_
      exact ⟨_, J, rfl, rfl, rfl, hJ0, hJQ⟩
    | succ m ih =>
      intro x hp
      refine zJ_iload dX13_tree_50 rfl ?_
      refine zJ_aload_n dX13_tree_52 rfl ?_
      refine zP_getr lf_X13_23 (zSt_ob hs 74 13 rfl) rfl (zSt_rf hs 74 12 78 rfl) dX13_tree_53 ?_
      refine zJ_iconst (v := nI 0) dX13_tree_56 rfl ?_
      refine zP_iald (zSt_ar hs 78 4 rfl) (by first | assumption | with_reducible exact vp_in_nI (by omega) (by omega) | (simp (disch := omega) only [nI_add, pk_mul, pk_sub, pk_div, pk_rem, nI_clamp]; with_reducible exact vp_in_nI (by omega) (by omega))) dX13_tree_57 ?_
      refine zJ_icmp_ge 96 dX13_tree_58 (by decide) (fun c58 => absurd c58 (by rw [hCC]; exact nI_ge (by omega) (by omega))) (fun _ => ?_)
      refine zJ_iload_n dX13_tree_61 rfl ?_
      refine zJ_aload_n dX13_tree_62 rfl ?_
      refine zP_getr lf_X13_70 (zSt_ob hs 74 13 rfl) rfl (zSt_rf hs 74 30 533 rfl) dX13_tree_63 ?_
      refine zJ_iload_n dX13_tree_66 rfl ?_
      refine zJ_bipush (v := nI 8) dX13_tree_67 rfl ?_
      refine zJ_iload_n dX13_tree_69 rfl ?_
      refine zJ_imul dX13_tree_70 ?_
      refine zJ_iload dX13_tree_71 rfl ?_
      refine zJ_iadd dX13_tree_73 ?_
      rw [pk_mul, nI_add, Nat.mul_comm]
      refine zP_callSi [_, _, _] _ ls_X13_287 (k_isIn (d := d - 1) hl (by omega) ha (by omega) (by omega)) rfl (by omega) (Nat.le_of_ble_eq_true rfl) rfl dX13_tree_74 ?_
      rw [r_tin hR0 (by omega) (by omega), ← hfx]
      refine zJ_if_eq 87 dX13_tree_77 (by decide) (fun c77 => ?_) (fun c77 => ?_)
      · replace c77 := zb0.mp c77
        refine zJ_iconst (v := nI 0) dX13_tree_87 rfl ?_
        refine zJ_ior dX13_tree_88 ?_
        refine zJ_istore_m 3 dX13_tree_89 rfl (Nat.le_of_ble_eq_true rfl) (by decide) ?_
        refine zJ_iinc1 dX13_tree_90 rfl (by decide) ?_
        refine zJ_goto 50 dX13_tree_93 (by decide) ?_
        refine zJ_back (zle_r (zle_r (zle_r (zle_i ?_ (zle_r zle_0))))) rfl (ih (x + 1) (by omega))
        rw [← bitF_no c77]; simp [nI0]
      · replace c77 := zb1.mp c77
        refine zJ_iconst (v := nI 1) dX13_tree_80 rfl ?_
        refine zJ_iload dX13_tree_81 rfl ?_
        refine zJ_ishl dX13_tree_83 ?_
        refine zJ_goto 88 dX13_tree_84 (by decide) ?_
        refine zJ_ior dX13_tree_88 ?_
        refine zJ_istore_m 3 dX13_tree_89 rfl (Nat.le_of_ble_eq_true rfl) (by decide) ?_
        refine zJ_iinc1 dX13_tree_90 rfl (by decide) ?_
        refine zJ_goto 50 dX13_tree_93 (by decide) ?_
        exact zJ_back (zle_r (zle_r (zle_r (zle_i (bitF_yes c77).symm (zle_r zle_0))))) rfl (ih (x + 1) (by omega))
  exact loop (bC S.2.1) 0 (by omega)
theorem m_meet (hl : l.stackTraces = false) (hd : 12 ≤ d) (hs : zSt g) {S : sT} (hI : rI I S) (hok : okS S) {n m : Nat} (hn : n < bN S.2.1) (hm : m < bN S.2.1) : zEi l Xi mX13_meet d [.ref 74, .int (nI n), .int (nI m)] I g (fun v J => v = cntF (fun p => tin S.2.2.1 n p && tin S.2.2.1 m p) 64 ∧ J 74 0 = nI 0 ∧ rQ I J) := by
  refine zC_of hl rfl rfl rfl (Nat.le_of_ble_eq_true rfl) (zav_r (zSt_ob hs 74 13 rfl).1 (zav_i (zav_i zav_0))) ?_
  have hI0 := rI_rQ hI (rQ_thr (x := nI 0))
  have hB0 := hI0.2.2.1
  have hR0 := hI0.2.2.2.1
  have hb := hB0.1
  have hN6 := hb.2.2.2.2.1
  have hC8 := hb.2.1
  have hR8 := hb.2.2.2.1
  have ha := zSt_ar hs 533 519 rfl
  obtain ⟨w, hw⟩ : ∃ w, m = w := ⟨_, rfl⟩
  rw [hw] at hm ⊢
  obtain ⟨f, hff⟩ : ∃ f : Nat → Bool, (fun p => tin S.2.2.1 n p && tin S.2.2.1 w p) = f := ⟨_, rfl⟩
  rw [hff]
  have hfx : ∀ x, f x = (tin S.2.2.1 n x && tin S.2.2.1 w x) := fun x => by rw [← hff]
  refine zJ_aload_n dX13_meet_0 rfl ?_
  refine zJ_iconst (v := nI 0) dX13_meet_1 rfl ?_
  refine zP_puti lf_X13_107 (zSt_ob hs 74 13 rfl) rfl dX13_meet_2 ?_
  refine zJ_aload_n dX13_meet_5 rfl ?_
  refine zJ_aload_n dX13_meet_6 rfl ?_
  refine zJ_iload_n dX13_meet_7 rfl ?_
  refine zP_callVi [_] _ lv_X13_412 (m_isNet (d := d - 1) hl (by omega) hs hB0) (zSt_ob hs 74 13 rfl) rfl (by omega) (Nat.le_of_ble_eq_true rfl) rfl dX13_meet_8 ?_
  rw [qNet_ok hb hn]
  refine zJ_if_eq 22 dX13_meet_11 (by decide) (fun c11 => absurd c11 (by decide)) (fun _ => ?_)
  refine zJ_aload_n dX13_meet_14 rfl ?_
  refine zJ_iload_n dX13_meet_15 rfl ?_
  refine zP_callVi [_] _ lv_X13_412 (m_isNet (d := d - 1) hl (by omega) hs hB0) (zSt_ob hs 74 13 rfl) rfl (by omega) (Nat.le_of_ble_eq_true rfl) rfl dX13_meet_16 ?_
  rw [qNet_ok hb hm]
  refine zJ_if_ne 26 dX13_meet_19 (by decide) (fun _ => ?_) (fun c19 => absurd c19 (by decide))
  refine zJ_iconst (v := nI 0) dX13_meet_26 rfl ?_
  refine zJ_iconst (v := nI 1) dX13_meet_27 rfl ?_
  refine zJ_iconst (v := nI 0) dX13_meet_28 rfl ?_
  refine zP_callVi [_, _, _] _ lv_X13_186 (m_badF (d := d - 1) hl (by omega) hs thr_at) (zSt_ob hs 74 13 rfl) rfl (by omega) (Nat.le_of_ble_eq_true rfl) rfl dX13_meet_29 ?_
  refine zJ_if_eq 37 dX13_meet_32 (by decide) (fun _ => ?_) (fun c32 => absurd rfl c32)
  refine zJ_iconst (v := nI 0) dX13_meet_37 rfl ?_
  refine zJ_istore_m 3 dX13_meet_38 rfl (Nat.le_of_ble_eq_true rfl) (by decide) ?_
  refine zJ_iconst (v := nI 0) dX13_meet_39 rfl ?_
  refine zJ_istore dX13_meet_40 (Nat.le_of_ble_eq_true rfl) (by decide) ?_
  obtain ⟨J, hJ⟩ : ∃ J, zup I 74 0 (nI 0) = J := ⟨_, rfl⟩
  have hJ0 : J 74 0 = nI 0 := by rw [← hJ]; exact thr_at
  have hJQ : rQ I J := by rw [← hJ]; exact rQ_thr
  rw [hJ] at hB0 hR0 ⊢
  have loop : ∀ m p, p + m = 64 → zJ l Xi mX13_meet d 0 0 42 [some (.ref 74), some (.int (nI n)), some (.int (nI w)), some (.int (cntF f p)), some (.int (nI p))] [] (J, g) (fun r' h' => ∃ x I', r' = .inl (some (.int x)) ∧ h' = (I', g) ∧ x = cntF f 64 ∧ I' 74 0 = nI 0 ∧ rQ I I') := by
    intro m
    induction m with
    | zero =>
      intro p hp
      obtain rfl : p = 64 := by omega
      refine zJ_iload dX13_meet_42 rfl ?_
      refine zJ_bipush (v := nI 64) dX13_meet_44 rfl ?_
      refine zJ_icmp_ge 89 dX13_meet_46 (by decide) (fun _ => ?_) (fun c46 => absurd (nI_le (by omega) (by omega)) c46)
      refine zJ_iload_n dX13_meet_89 rfl ?_
      refine zJ_iret rfl dX13_meet_90 ?_
      exact ⟨_, J, rfl, rfl, rfl, hJ0, hJQ⟩
    | succ m ih =>
      intro p hp
      refine zJ_iload dX13_meet_42 rfl ?_
      refine zJ_bipush (v := nI 64) dX13_meet_44 rfl ?_
      refine zJ_icmp_ge 89 dX13_meet_46 (by decide) (fun c46 => absurd c46 (nI_ge (by omega) (by omega))) (fun _ => ?_)
      refine zJ_iload_n dX13_meet_49 rfl ?_
      refine zJ_aload_n dX13_meet_50 rfl ?_
      refine zP_getr lf_X13_70 (zSt_ob hs 74 13 rfl) rfl (zSt_rf hs 74 30 533 rfl) dX13_meet_51 ?_
      refine zJ_iload_n dX13_meet_54 rfl ?_
      refine zJ_iload dX13_meet_55 rfl ?_
      refine zP_callSi [_, _, _] _ ls_X13_287 (k_isIn (d := d - 1) hl (by omega) ha (by omega) (by omega)) rfl (by omega) (Nat.le_of_ble_eq_true rfl) rfl dX13_meet_57 ?_
      rw [r_tin hR0 (by omega) (by omega)]
      refine zJ_if_eq 80 dX13_meet_60 (by decide) (fun c60 => ?_) (fun c60 => ?_)
      · replace c60 := zb0.mp c60
        refine zJ_iconst (v := nI 0) dX13_meet_80 rfl ?_
        refine zJ_iadd dX13_meet_81 ?_
        refine zJ_istore_m 3 dX13_meet_82 rfl (Nat.le_of_ble_eq_true rfl) (by decide) ?_
        refine zJ_iinc1 dX13_meet_83 rfl (by decide) ?_
        refine zJ_goto 42 dX13_meet_86 (by decide) ?_
        refine zJ_eq ?_ rfl rfl (ih (p + 1) (by omega))
        simp [cntF, lp, hfx, c60, nI0]
      · replace c60 := zb1.mp c60
        refine zJ_aload_n dX13_meet_63 rfl ?_
        refine zP_getr lf_X13_70 (zSt_ob hs 74 13 rfl) rfl (zSt_rf hs 74 30 533 rfl) dX13_meet_64 ?_
        refine zJ_iload_n dX13_meet_67 rfl ?_
        refine zJ_iload dX13_meet_68 rfl ?_
        refine zP_callSi [_, _, _] _ ls_X13_287 (k_isIn (d := d - 1) hl (by omega) ha (by omega) (by omega)) rfl (by omega) (Nat.le_of_ble_eq_true rfl) rfl dX13_meet_70 ?_
        rw [r_tin hR0 (by omega) (by omega)]
        refine zJ_if_eq 80 dX13_meet_73 (by decide) (fun c73 => ?_) (fun c73 => ?_)
        · replace c73 := zb0.mp c73
          refine zJ_iconst (v := nI 0) dX13_meet_80 rfl ?_
          refine zJ_iadd dX13_meet_81 ?_
          refine zJ_istore_m 3 dX13_meet_82 rfl (Nat.le_of_ble_eq_true rfl) (by decide) ?_
          refine zJ_iinc1 dX13_meet_83 rfl (by decide) ?_
          refine zJ_goto 42 dX13_meet_86 (by decide) ?_
          refine zJ_eq ?_ rfl rfl (ih (p + 1) (by omega))
          simp [cntF, lp, hfx, c73, nI0]
        · replace c73 := zb1.mp c73
          refine zJ_iconst (v := nI 1) dX13_meet_76 rfl ?_
          refine zJ_goto 81 dX13_meet_77 (by decide) ?_
          refine zJ_iadd dX13_meet_81 ?_
          refine zJ_istore_m 3 dX13_meet_82 rfl (Nat.le_of_ble_eq_true rfl) (by decide) ?_
          refine zJ_iinc1 dX13_meet_83 rfl (by decide) ?_
          refine zJ_goto 42 dX13_meet_86 (by decide) ?_
          refine zJ_eq ?_ rfl rfl (ih (p + 1) (by omega))
          simp [cntF, lp, hfx, c60, c73, nI1]
  exact loop 64 0 (by omega)
theorem m_dear (hl : l.stackTraces = false) (hd : 12 ≤ d) (hs : zSt g) {S : sT} (hI : rI I S) (hok : okS S) {n : Nat} (hn : n < bN S.2.1) : zEi l Xi mX13_dear d [.ref 74, .int (nI n)] I g (fun v J => v = sumF (deaF S.2.1 S.2.2.1 n) 64 ∧ J 74 0 = nI 0 ∧ rQ I J) := by
  refine zC_of hl rfl rfl rfl (Nat.le_of_ble_eq_true rfl) (zav_r (zSt_ob hs 74 13 rfl).1 (zav_i zav_0)) ?_
  have hI0 := rI_rQ hI (rQ_thr (x := nI 0))
  have hB0 := hI0.2.2.1
  have hR0 := hI0.2.2.2.1
  have hb := hB0.1
  have hN6 := hb.2.2.2.2.1
  have hC8 := hb.2.1
  have hR8 := hb.2.2.2.1
  have ha := zSt_ar hs 533 519 rfl
  have sumS : ∀ {f : Nat → Int32} {k : Nat}, sumF f (k + 1) = sumF f k + f k := rfl
  obtain ⟨f, hff⟩ : ∃ f : Nat → Int32, deaF S.2.1 S.2.2.1 n = f := ⟨_, rfl⟩
  rw [hff]
  have f0 : ∀ x, (S.2.2.1 (n * 64 + x) = -1 ∨ S.2.2.1 (n * 64 + x) = nI 4) → f x = 0 := fun x hx => by rw [← hff]; unfold deaF; rw [if_pos hx]
  have f1 : ∀ x, ¬ (S.2.2.1 (n * 64 + x) = -1 ∨ S.2.2.1 (n * 64 + x) = nI 4) → f x = lawV S.2.1 (nmM S.2.1 S.2.2.1 n x) := fun x hx => by rw [← hff]; unfold deaF; rw [if_neg hx]
  have loop : ∀ k p (J : zI), p + k = 64 → rQ I J → J 74 0 = nI 0 → zJ l Xi mX13_dear d 0 0 33 [some (.ref 74), some (.int (nI n)), some (.int (sumF f p)), some (.int (nI p))] [] (J, g) (fun r' h' => ∃ x I', r' = .inl (some (.int x)) ∧ h' = (I', g) ∧ x = sumF f 64 ∧ I' 74 0 = nI 0 ∧ rQ I I') := by
    intro k
    induction k with
    | zero =>
      intro p J hp hJQ hJ0
      obtain rfl : p = 64 := by omega
      refine zJ_iload_n dX13_dear_33 rfl ?_
      refine zJ_bipush (v := nI 64) dX13_dear_34 rfl ?_
      refine zJ_icmp_ge 88 dX13_dear_36 (by decide) (fun _ => ?_) (fun c36 => absurd (nI_le (by omega) (by omega)) c36)
      refine zJ_iload_n dX13_dear_88 rfl ?_
      refine zJ_iret rfl dX13_dear_89 ?_
      exact ⟨_, J, rfl, rfl, rfl, hJ0, hJQ⟩
    | succ k ih =>
      intro p J hp hJQ hJ0
      have hIJ := rI_rQ hI hJQ
      have hBJ := hIJ.2.2.1
      have hRJ := hIJ.2.2.2.1
      have IH := fun K h1 h2 => ih (p + 1) K (by omega) h1 h2
      refine zJ_iload_n dX13_dear_33 rfl ?_
      refine zJ_bipush (v := nI 64) dX13_dear_34 rfl ?_
      refine zJ_icmp_ge 88 dX13_dear_36 (by decide) (fun c36 => absurd c36 (nI_ge (by omega) (by omega))) (fun _ => ?_)
      refine zJ_iload_n dX13_dear_39 rfl ?_
      refine zJ_aload_n dX13_dear_40 rfl ?_
      refine zP_getr lf_X13_70 (zSt_ob hs 74 13 rfl) rfl (zSt_rf hs 74 30 533 rfl) dX13_dear_41 ?_
      refine zJ_iload_n dX13_dear_44 rfl ?_
      refine zJ_iload_n dX13_dear_45 rfl ?_
      refine zP_callSi [_, _, _] _ ls_X13_287 (k_isIn (d := d - 1) hl (by omega) ha (by omega) (by omega)) rfl (by omega) (Nat.le_of_ble_eq_true rfl) rfl dX13_dear_46 ?_
      rw [r_tin hRJ (by omega) (by omega)]
      refine zJ_if_eq 79 dX13_dear_49 (by decide) (fun c49 => ?_) (fun c49 => ?_)
      · replace c49 := zb0.mp c49
        refine zJ_iconst (v := nI 0) dX13_dear_79 rfl ?_
        refine zJ_iadd dX13_dear_80 ?_
        refine zJ_istore_m 2 dX13_dear_81 rfl (Nat.le_of_ble_eq_true rfl) (by decide) ?_
        refine zJ_iinc1 dX13_dear_82 rfl (by decide) ?_
        refine zJ_goto 33 dX13_dear_85 (by decide) ?_
        refine zJ_back (zle_r (zle_r (zle_i ?_ (zle_r zle_0)))) rfl (IH J hJQ hJ0)
        rw [sumS, f0 p (Or.inl (Classical.not_not.mp (of_decide_eq_false c49)))]; rfl
      · replace c49 := zb1.mp c49
        refine zJ_aload_n dX13_dear_52 rfl ?_
        refine zP_getr lf_X13_70 (zSt_ob hs 74 13 rfl) rfl (zSt_rf hs 74 30 533 rfl) dX13_dear_53 ?_
        refine zJ_iload_n dX13_dear_56 rfl ?_
        refine zJ_iload_n dX13_dear_57 rfl ?_
        refine zP_callSi [_, _] _ ls_X13_284 (k_treeOf (d := d - 1) hl (by omega)) rfl (by omega) (Nat.le_of_ble_eq_true rfl) rfl dX13_dear_58 ?_
        refine zP_iald (zSt_ar hs 533 519 rfl) (by first | assumption | with_reducible exact vp_in_nI (by omega) (by omega) | (simp (disch := omega) only [nI_add, pk_mul, pk_sub, pk_div, pk_rem, nI_clamp]; with_reducible exact vp_in_nI (by omega) (by omega))) dX13_dear_61 ?_
        rw [nI_clamp (by omega), hRJ.1 _ (by omega)]
        refine zJ_iconst (v := nI 4) dX13_dear_62 rfl ?_
        refine zJ_icmp_eq 79 dX13_dear_63 (by decide) (fun c63 => ?_) (fun c63 => ?_)
        · skip
          refine zJ_iconst (v := nI 0) dX13_dear_79 rfl ?_
          refine zJ_iadd dX13_dear_80 ?_
          refine zJ_istore_m 2 dX13_dear_81 rfl (Nat.le_of_ble_eq_true rfl) (by decide) ?_
          refine zJ_iinc1 dX13_dear_82 rfl (by decide) ?_
          refine zJ_goto 33 dX13_dear_85 (by decide) ?_
          refine zJ_back (zle_r (zle_r (zle_i ?_ (zle_r zle_0)))) rfl (IH J hJQ hJ0)
          rw [sumS, f0 p (Or.inr c63)]; rfl
        · skip
          refine zJ_aload_n dX13_dear_66 rfl ?_
          refine zJ_aload_n dX13_dear_67 rfl ?_
          refine zP_getr lf_X13_70 (zSt_ob hs 74 13 rfl) rfl (zSt_rf hs 74 30 533 rfl) dX13_dear_68 ?_
          refine zJ_iload_n dX13_dear_71 rfl ?_
          refine zJ_iload_n dX13_dear_72 rfl ?_
          refine zP_ecallVi [_, _, _] _ lv_X13_305 (m_costOf (d := d - 1) hl (by omega) hs hBJ ha hRJ hok.2.1 hn (by omega)) (zSt_ob hs 74 13 rfl) rfl (by omega) (Nat.le_of_ble_eq_true rfl) rfl dX13_dear_73 (fun v K hv => ?_)
          refine zJ_goto 80 dX13_dear_76 (by decide) ?_
          refine zJ_iadd dX13_dear_80 ?_
          refine zJ_istore_m 2 dX13_dear_81 rfl (Nat.le_of_ble_eq_true rfl) (by decide) ?_
          refine zJ_iinc1 dX13_dear_82 rfl (by decide) ?_
          refine zJ_goto 33 dX13_dear_85 (by decide) ?_
          refine zJ_back (zle_r (zle_r (zle_i ?_ (zle_r zle_0)))) rfl (IH K (rQ_trans hJQ (rQ_rF (fun c q1 q2 _ _ => hv.2 c q1 q2))) (by rw [hv.2 74 (by decide) (by decide)]; exact hJ0))
          have c49' : ¬ S.2.2.1 (n * 64 + p) = -1 := of_decide_eq_true c49
          rw [sumS, f1 p (fun z => z.elim c49' c63), hv.1]
  refine zJ_aload_n dX13_dear_0 rfl ?_
  refine zJ_iconst (v := nI 0) dX13_dear_1 rfl ?_
  refine zP_puti lf_X13_107 (zSt_ob hs 74 13 rfl) rfl dX13_dear_2 ?_
  refine zJ_aload_n dX13_dear_5 rfl ?_
  refine zJ_aload_n dX13_dear_6 rfl ?_
  refine zJ_iload_n dX13_dear_7 rfl ?_
  refine zP_callVi [_] _ lv_X13_412 (m_isNet (d := d - 1) hl (by omega) hs hB0) (zSt_ob hs 74 13 rfl) rfl (by omega) (Nat.le_of_ble_eq_true rfl) rfl dX13_dear_8 ?_
  rw [qNet_ok hb hn]
  refine zJ_if_ne 18 dX13_dear_11 (by decide) (fun _ => ?_) (fun c11 => absurd c11 (by decide))
  refine zJ_iconst (v := nI 0) dX13_dear_18 rfl ?_
  refine zJ_iconst (v := nI 1) dX13_dear_19 rfl ?_
  refine zJ_iconst (v := nI 0) dX13_dear_20 rfl ?_
  refine zP_callVi [_, _, _] _ lv_X13_186 (m_badF (d := d - 1) hl (by omega) hs thr_at) (zSt_ob hs 74 13 rfl) rfl (by omega) (Nat.le_of_ble_eq_true rfl) rfl dX13_dear_21 ?_
  refine zJ_if_eq 29 dX13_dear_24 (by decide) (fun _ => ?_) (fun c24 => absurd rfl c24)
  refine zJ_iconst (v := nI 0) dX13_dear_29 rfl ?_
  refine zJ_istore_m 2 dX13_dear_30 rfl (Nat.le_of_ble_eq_true rfl) (by decide) ?_
  refine zJ_iconst (v := nI 0) dX13_dear_31 rfl ?_
  refine zJ_istore_m 3 dX13_dear_32 rfl (Nat.le_of_ble_eq_true rfl) (by decide) ?_
  exact loop 64 0 _ (by omega) rQ_thr thr_at
theorem tea_tin {b : zWo} {R : rwT} {n p : Nat} (hr : bpn b n 0 < 64) (hp : p < 64) : tin (teaM b R n) n p = kepM b R n p := by
  unfold teaM
  by_cases z : p = bpn b n 0
  · have e : kepM b R n p = true := by unfold kepM; rw [decide_eq_true z]; rfl
    rw [e]
    unfold tin
    rw [← z, upd_at]; rfl
  · unfold tin
    rw [upd_ne (by omega)]
    cases h : kepM b R n p with
    | false =>
      rw [if_pos ⟨by omega, by omega, by rw [Nat.add_sub_cancel_left]; exact h⟩]; rfl
    | true =>
      rw [if_neg (fun q => by rw [Nat.add_sub_cancel_left, h] at q; exact absurd q.2.2 (by decide))]
      unfold kepM at h
      rw [decide_eq_false z, Bool.false_or, Bool.and_eq_true] at h
      exact h.1
theorem m_shed (hl : l.stackTraces = false) (hd : 12 ≤ d) (hs : zSt g) {S : sT} (hI : rI I S) (hok : okS S) {n : Nat} (hn : n < bN S.2.1) : zEi l Xi mX13_shed d [.ref 74, .int (nI n)] I g (fun v J => v = sheV S.2.1 S.2.2.1 n ∧ J 74 0 = nI 0 ∧ rQ I J) := by
  refine zC_of hl rfl rfl rfl (Nat.le_of_ble_eq_true rfl) (zav_r (zSt_ob hs 74 13 rfl).1 (zav_i zav_0)) ?_
  have hI0 := rI_rQ hI (rQ_thr (x := nI 0))
  have hB0 := hI0.2.2.1
  have hR0 := hI0.2.2.2.1
  have hb := hB0.1
  have hN6 := hb.2.2.2.2.1
  have hC8 := hb.2.1
  have hR8 := hb.2.2.2.1
  have ha := zSt_ar hs 533 519 rfl
  have ha2 := zSt_ar hs 534 519 rfl
  obtain ⟨J, hJ⟩ : ∃ J, va_up (zup I 74 0 (nI 0)) 534 (fun k => if k < 519 then zup I 74 0 (nI 0) 533 k else zup I 74 0 (nI 0) 534 k) = J := ⟨_, rfl⟩
  have hRJ : rRow J 534 S.2.1 S.2.2.1 := by rw [← hJ]; exact copy_row hN6 (by decide) hR0
  have hJQ : rQ I J := by rw [← hJ]; exact rQ_trans rQ_thr ⟨fun c q1 q2 q3 q4 q5 q6 => va_up_row q4, fun k q1 q2 => by rw [va_up_row (by decide)]⟩
  have hJ0 : J 74 0 = nI 0 := by rw [← hJ, va_up_row (by decide)]; exact thr_at
  have hBJ := rB_rQ hI.2.2.1 hJQ
  have hpc := (hBJ.2.2.2.1 n hn).2
  have hp4 := hb.2.2.2.2.2.1 n (by omega)
  unfold sheV
  by_cases e : bpc S.2.1 n = 0
  · rw [if_pos e]
    refine zJ_aload_n dX13_shed_0 rfl ?_
    refine zJ_iconst (v := nI 0) dX13_shed_1 rfl ?_
    refine zP_puti lf_X13_107 (zSt_ob hs 74 13 rfl) rfl dX13_shed_2 ?_
    refine zJ_aload_n dX13_shed_5 rfl ?_
    refine zJ_aload_n dX13_shed_6 rfl ?_
    refine zJ_iload_n dX13_shed_7 rfl ?_
    refine zP_callVi [_] _ lv_X13_412 (m_isNet (d := d - 1) hl (by omega) hs hB0) (zSt_ob hs 74 13 rfl) rfl (by omega) (Nat.le_of_ble_eq_true rfl) rfl dX13_shed_8 ?_
    rw [qNet_ok hb hn]
    refine zJ_if_ne 18 dX13_shed_11 (by decide) (fun _ => ?_) (fun c11 => absurd c11 (by decide))
    refine zJ_iconst (v := nI 0) dX13_shed_18 rfl ?_
    refine zJ_iconst (v := nI 1) dX13_shed_19 rfl ?_
    refine zJ_iconst (v := nI 0) dX13_shed_20 rfl ?_
    refine zP_callVi [_, _, _] _ lv_X13_186 (m_badF (d := d - 1) hl (by omega) hs thr_at) (zSt_ob hs 74 13 rfl) rfl (by omega) (Nat.le_of_ble_eq_true rfl) rfl dX13_shed_21 ?_
    refine zJ_if_eq 29 dX13_shed_24 (by decide) (fun _ => ?_) (fun c24 => absurd rfl c24)
    refine zJ_aload_n dX13_shed_29 rfl ?_
    refine zP_getr lf_X13_70 (zSt_ob hs 74 13 rfl) rfl (zSt_rf hs 74 30 533 rfl) dX13_shed_30 ?_
    refine zJ_aload_n dX13_shed_33 rfl ?_
    refine zP_getr lf_X13_73 (zSt_ob hs 74 13 rfl) rfl (zSt_rf hs 74 31 534 rfl) dX13_shed_34 ?_
    refine zP_callSv [_, _] _ ls_X13_379 (k_copies (d := d - 1) hl (by omega) ha ha2 (by decide)) rfl (by omega) (Nat.le_of_ble_eq_true rfl) rfl dX13_shed_37 ?_
    rw [hJ]
    refine zJ_aload_n dX13_shed_40 rfl ?_
    refine zP_getr lf_X13_40 (zSt_ob hs 74 13 rfl) rfl (zSt_rf hs 74 17 89 rfl) dX13_shed_41 ?_
    refine zJ_iload_n dX13_shed_44 rfl ?_
    refine zP_rowK (k := n) (zSt_g89 hs) (by omega) (by decide) dX13_shed_45 ?_
    refine zJ_iconst (v := nI 2) dX13_shed_46 rfl ?_
    refine zP_iald (zGr_ar (zSt_g89 hs) (i := n) (by omega)) (by first | assumption | with_reducible exact vp_in_nI (by omega) (by omega) | (simp (disch := omega) only [nI_add, pk_mul, pk_sub, pk_div, pk_rem, nI_clamp]; with_reducible exact vp_in_nI (by omega) (by omega))) dX13_shed_47 ?_
    rw [nI_clamp (by omega), hpc, e]
    refine zJ_if_ne 55 dX13_shed_48 (by decide) (fun c48 => absurd rfl c48) (fun _ => ?_)
    refine zJ_iconst (v := nI 0) dX13_shed_51 rfl ?_
    refine zJ_goto 64 dX13_shed_52 (by decide) ?_
    refine zJ_iret rfl dX13_shed_64 ?_
    exact ⟨_, J, rfl, rfl, rfl, hJ0, hJQ⟩
  · rw [if_neg e]
    refine zJ_aload_n dX13_shed_0 rfl ?_
    refine zJ_iconst (v := nI 0) dX13_shed_1 rfl ?_
    refine zP_puti lf_X13_107 (zSt_ob hs 74 13 rfl) rfl dX13_shed_2 ?_
    refine zJ_aload_n dX13_shed_5 rfl ?_
    refine zJ_aload_n dX13_shed_6 rfl ?_
    refine zJ_iload_n dX13_shed_7 rfl ?_
    refine zP_callVi [_] _ lv_X13_412 (m_isNet (d := d - 1) hl (by omega) hs hB0) (zSt_ob hs 74 13 rfl) rfl (by omega) (Nat.le_of_ble_eq_true rfl) rfl dX13_shed_8 ?_
    rw [qNet_ok hb hn]
    refine zJ_if_ne 18 dX13_shed_11 (by decide) (fun _ => ?_) (fun c11 => absurd c11 (by decide))
    refine zJ_iconst (v := nI 0) dX13_shed_18 rfl ?_
    refine zJ_iconst (v := nI 1) dX13_shed_19 rfl ?_
    refine zJ_iconst (v := nI 0) dX13_shed_20 rfl ?_
    refine zP_callVi [_, _, _] _ lv_X13_186 (m_badF (d := d - 1) hl (by omega) hs thr_at) (zSt_ob hs 74 13 rfl) rfl (by omega) (Nat.le_of_ble_eq_true rfl) rfl dX13_shed_21 ?_
    refine zJ_if_eq 29 dX13_shed_24 (by decide) (fun _ => ?_) (fun c24 => absurd rfl c24)
    refine zJ_aload_n dX13_shed_29 rfl ?_
    refine zP_getr lf_X13_70 (zSt_ob hs 74 13 rfl) rfl (zSt_rf hs 74 30 533 rfl) dX13_shed_30 ?_
    refine zJ_aload_n dX13_shed_33 rfl ?_
    refine zP_getr lf_X13_73 (zSt_ob hs 74 13 rfl) rfl (zSt_rf hs 74 31 534 rfl) dX13_shed_34 ?_
    refine zP_callSv [_, _] _ ls_X13_379 (k_copies (d := d - 1) hl (by omega) ha ha2 (by decide)) rfl (by omega) (Nat.le_of_ble_eq_true rfl) rfl dX13_shed_37 ?_
    rw [hJ]
    refine zJ_aload_n dX13_shed_40 rfl ?_
    refine zP_getr lf_X13_40 (zSt_ob hs 74 13 rfl) rfl (zSt_rf hs 74 17 89 rfl) dX13_shed_41 ?_
    refine zJ_iload_n dX13_shed_44 rfl ?_
    refine zP_rowK (k := n) (zSt_g89 hs) (by omega) (by decide) dX13_shed_45 ?_
    refine zJ_iconst (v := nI 2) dX13_shed_46 rfl ?_
    refine zP_iald (zGr_ar (zSt_g89 hs) (i := n) (by omega)) (by first | assumption | with_reducible exact vp_in_nI (by omega) (by omega) | (simp (disch := omega) only [nI_add, pk_mul, pk_sub, pk_div, pk_rem, nI_clamp]; with_reducible exact vp_in_nI (by omega) (by omega))) dX13_shed_47 ?_
    rw [nI_clamp (by omega), hpc]
    refine zJ_if_ne 55 dX13_shed_48 (by decide) (fun _ => ?_) (fun c48 => absurd c48 (nI_ne0 (by omega) (by omega)))
    refine zJ_aload_n dX13_shed_55 rfl ?_
    refine zJ_aload_n dX13_shed_56 rfl ?_
    refine zP_getr lf_X13_73 (zSt_ob hs 74 13 rfl) rfl (zSt_rf hs 74 31 534 rfl) dX13_shed_57 ?_
    refine zJ_iload_n dX13_shed_60 rfl ?_
    refine zP_ecallVi [_, _] _ lv_X13_344 (m_sheds (d := d - 1) hl (by omega) hs hBJ ha2 (by omega) hRJ hok.2.1 hn (by omega)) (zSt_ob hs 74 13 rfl) rfl (by omega) (Nat.le_of_ble_eq_true rfl) rfl dX13_shed_61 (fun v K h => ?_)
    refine zJ_iret rfl dX13_shed_64 ?_
    refine ⟨_, K, rfl, rfl, ?_, ?_, rQ_trans hJQ (rQ_rS (by omega) h.2.1)⟩
    · rw [h.1, cntF_nI, cB_congr (fun p hp => tea_tin (hb.2.2.2.2.2.2.1 n 0 (by omega) (by omega)).1 hp)]
    · rw [h.2.1 74 (by decide) (by decide) (by decide) (by decide) (by decide) (by decide)]; exact hJ0
end ZRefY
