/-! ===== the reference: rounds, easing, blocking ===== -/
section ZRefI
variable {l : Launch} {Xi : zXi} {d : Nat} {I : zI} {g : zG}
theorem okR_hisN {b : zWo} {R : rwT} {m : Nat} (hb : bdOk b) (hg : gnOk b) (h : okR b R) (hm : m ≤ 64) : okR b (hisN b R m) := by
  refine okR_rest hb h (fun j hj => if_neg (by omega)) (fun p hp => ?_) (fun p hp => ?_)
  · have e : hisN b R m (448 + p) = R (448 + p) := if_neg (by omega)
    rw [e]; exact h.2.2.1 p hp
  · by_cases z : p < m
    · have e : hisN b R m (384 + p) = hisM b R (384 + p) := (if_pos (by omega)).trans (if_pos (show 384 ≤ 384 + p ∧ 384 + p < 448 by omega)).symm
      rw [e]; exact (okR_his hb hg h).2.2.2 p hp
    · have e : hisN b R m (384 + p) = R (384 + p) := if_neg (by omega)
      rw [e]; exact h.2.2.2 p hp
set_option maxHeartbeats 1000000 in
theorem m_roundEnds (hl : l.stackTraces = false) (hd : 8 ≤ d) (hs : zSt g) {b : zWo} {R : rwT} (hB : rB I b) {a : Nat} (ha : zAr g a 519) (haa : a = 533 ∨ a = 534 ∨ a = 535) (hR : rRow I a b R) (hok : okR b R) (hg : gnOk b) : zEv l Xi mX13_roundEnds d [.ref 74, .ref a] I g (fun J => rS a I J ∧ rRow J a b (rndM b R)) := by
  refine zC_of hl rfl rfl rfl (Nat.le_of_ble_eq_true rfl) (zav_r (zSt_ob hs 74 13 rfl).1 (zav_r ha.1 zav_0)) ?_
  have hb := hB.1
  have hN6 := hb.2.2.2.2.1
  obtain ⟨post, hpost⟩ : ∃ post : zR → zH → Prop, post = (fun r' h' => r' = .inl none ∧ ∃ I', h' = (I', g) ∧ rS a I I' ∧ rRow I' a b (rndM b R)) := ⟨_, rfl⟩
  rw [← hpost]
  obtain ⟨Q, hQ⟩ : ∃ Q, Q = rndN b R (bN b) := ⟨_, rfl⟩
  have hokQ : okR b Q := by rw [hQ]; exact okR_rndN hb hok (Nat.le_refl _)
  have last : ∀ (J1 : zI), rS a I J1 → rRow J1 a b Q → zJ l Xi mX13_roundEnds d 0 0 63 [some (.ref 74), some (.ref a), none] [] (J1, g) post := by
    intro J1 hJ1 hR1
    have loop : ∀ m p, p + m = 64 → ∀ (J : zI), (rS a I J ∧ rRow J a b (hisN b Q p)) → zJ l Xi mX13_roundEnds d 0 0 65 [some (.ref 74), some (.ref a), some (.int (nI p))] [] (J, g) post := by
      intro m
      induction m with
      | zero =>
        intro p hp J hI
        obtain rfl : p = 64 := by omega
        refine zJ_iload_n dX13_roundEnds_65 rfl ?_
        refine zJ_bipush (v := nI 64) dX13_roundEnds_66 rfl ?_
        refine zJ_icmp_ge 111 dX13_roundEnds_68 (by decide) (fun _ => ?_) (fun c68 => absurd (nI_le (by omega) (by omega)) c68)
        refine zJ_aload_n dX13_roundEnds_111 rfl ?_
        refine zJ_sipush (v := nI 518) dX13_roundEnds_112 rfl ?_
        refine zJ_dup2 dX13_roundEnds_115 rfl rfl ?_
        refine zP_iald ha (by first | assumption | with_reducible exact vp_in_nI (by omega) (by omega) | (simp (disch := omega) only [nI_add, pk_mul, pk_sub, pk_div, pk_rem, nI_clamp]; with_reducible exact vp_in_nI (by omega) (by omega))) dX13_roundEnds_116 ?_
        rw [nI_clamp (by omega), hI.2.2.2]
        refine zJ_iconst (v := nI 1) dX13_roundEnds_117 rfl ?_
        refine zJ_iadd dX13_roundEnds_118 ?_
        refine zP_iast ha (by first | assumption | with_reducible exact vp_in_nI (by omega) (by omega) | (simp (disch := omega) only [nI_add, pk_mul, pk_sub, pk_div, pk_rem, nI_clamp]; with_reducible exact vp_in_nI (by omega) (by omega))) dX13_roundEnds_119 ?_
        refine zJ_vret rfl dX13_roundEnds_120 ?_
        rw [hpost, nI_clamp (by omega)]
        refine ⟨rfl, _, rfl, rS_trans hI.1 (fun c h1 _ _ _ _ _ => zup_row h1), ?_⟩
        unfold rndM
        rw [← hQ]
        exact rRow_upd hI.2 rfl (by omega)
      | succ m ih =>
        intro p hp J hI
        have hBJ : rB J b := rB_rS hB haa hI.1
        have hov : ovN b (hisN b Q p) p = ovN b Q p := ovN_congr (by omega) (fun k hk => if_neg (by omega))
        have hk : hisN b Q p (384 + p) = Q (384 + p) := if_neg (by omega)
        refine zJ_iload_n dX13_roundEnds_65 rfl ?_
        refine zJ_bipush (v := nI 64) dX13_roundEnds_66 rfl ?_
        refine zJ_icmp_ge 111 dX13_roundEnds_68 (by decide) (fun c68 => absurd c68 (nI_ge (by omega) (by omega))) (fun _ => ?_)
        refine zJ_aload_n dX13_roundEnds_71 rfl ?_
        refine zJ_sipush (v := nI 384) dX13_roundEnds_72 rfl ?_
        refine zJ_iload_n dX13_roundEnds_75 rfl ?_
        refine zJ_iadd dX13_roundEnds_76 ?_
        refine zJ_sipush (v := nI 9999) dX13_roundEnds_77 rfl ?_
        refine zJ_aload_n dX13_roundEnds_80 rfl ?_
        refine zJ_sipush (v := nI 384) dX13_roundEnds_81 rfl ?_
        refine zJ_iload_n dX13_roundEnds_84 rfl ?_
        refine zJ_iadd dX13_roundEnds_85 ?_
        rw [nI_add]
        refine zP_iald ha (by first | assumption | with_reducible exact vp_in_nI (by omega) (by omega) | (simp (disch := omega) only [nI_add, pk_mul, pk_sub, pk_div, pk_rem, nI_clamp]; with_reducible exact vp_in_nI (by omega) (by omega))) dX13_roundEnds_86 ?_
        rw [nI_clamp (by omega), hI.2.1 _ (by omega), hk]
        refine zJ_aload_n dX13_roundEnds_87 rfl ?_
        refine zJ_aload_n dX13_roundEnds_88 rfl ?_
        refine zJ_iload_n dX13_roundEnds_89 rfl ?_
        refine zP_callVi [_, _] _ lv_X13_335 (k_over (d := d - 1) hl (by omega) hs hBJ ha hI.2 (okR_hisN hb hg hokQ (by omega)) (by omega)) (zSt_ob hs 74 13 rfl) rfl (by omega) (Nat.le_of_ble_eq_true rfl) rfl dX13_roundEnds_90 ?_
        rw [hov]
        refine zJ_aload_n dX13_roundEnds_93 rfl ?_
        refine zP_getr lf_X13_23 (zSt_ob hs 74 13 rfl) rfl (zSt_rf hs 74 12 78 rfl) dX13_roundEnds_94 ?_
        refine zJ_iconst (v := nI 3) dX13_roundEnds_97 rfl ?_
        refine zP_iald (zSt_ar hs 78 4 rfl) (by first | assumption | with_reducible exact vp_in_nI (by omega) (by omega) | (simp (disch := omega) only [nI_add, pk_mul, pk_sub, pk_div, pk_rem, nI_clamp]; with_reducible exact vp_in_nI (by omega) (by omega))) dX13_roundEnds_98 ?_
        rw [nI_clamp (by omega), hBJ.2.1.2.2.2]
        refine zJ_imul dX13_roundEnds_99 ?_
        refine zJ_iadd dX13_roundEnds_100 ?_
        refine zP_callSi [_, _] _ ls_X13_259 (k_less (d := d - 1) hl (by omega)) rfl (by omega) (Nat.le_of_ble_eq_true rfl) rfl dX13_roundEnds_101 ?_
        refine zP_iast ha (by first | assumption | with_reducible exact vp_in_nI (by omega) (by omega) | (simp (disch := omega) only [nI_add, pk_mul, pk_sub, pk_div, pk_rem, nI_clamp]; with_reducible exact vp_in_nI (by omega) (by omega))) dX13_roundEnds_104 ?_
        refine zJ_iinc1 dX13_roundEnds_105 rfl (by decide) ?_
        refine zJ_goto 65 dX13_roundEnds_108 (by decide) ?_
        rw [nI_clamp (by omega)]
        refine zJ_back (zle_r (zle_r (zle_r zle_0))) rfl (ih (p + 1) (by omega) _ ⟨rS_trans hI.1 (fun c h1 _ _ _ _ _ => zup_row h1), rRow_eq (rRow_upd hI.2 rfl (by omega)) (fun k hk2 => ?_) hN6⟩)
        unfold hisN
        by_cases z : k = 384 + p
        · subst z
          rw [upd_at, if_pos (by omega), Nat.add_sub_cancel_left]
          show (if Q (384 + p) + nI (ovN b Q p) * bgn b < nI 9999 then Q (384 + p) + nI (ovN b Q p) * bgn b else nI 9999) = lesI (nI 9999) (Q (384 + p) + nI (ovN b Q p) * bgn b)
          unfold lesI
          obtain ⟨h, hh⟩ : ∃ h, Q (384 + p) + nI (ovN b Q p) * bgn b = h := ⟨_, rfl⟩
          rw [hh]
          by_cases z1 : h < nI 9999
          · rw [if_pos z1, if_neg (Int32.not_lt.mpr (Int32.le_of_lt z1))]
          · rw [if_neg z1]
            by_cases z2 : nI 9999 < h
            · rw [if_pos z2]
            · rw [if_neg z2]; exact Int32.le_antisymm (Int32.not_lt.mp z1) (Int32.not_lt.mp z2)
        · rw [upd_ne z]
          by_cases z2 : 384 ≤ k ∧ k < 384 + p
          · rw [if_pos (by omega), if_pos z2]
          · rw [if_neg (by omega), if_neg z2]
    refine zJ_iconst (v := nI 0) dX13_roundEnds_63 rfl ?_
    refine zJ_istore_m 2 dX13_roundEnds_64 rfl (Nat.le_of_ble_eq_true rfl) (by decide) ?_
    exact loop 64 0 (by omega) J1 ⟨hJ1, rRow_eq hR1 (fun k hk => by unfold hisN; rw [if_neg (by omega)]) hN6⟩
  have nets : ∀ m p, p + m = bN b → ∀ (J : zI), (rS a I J ∧ rRow J a b (rndN b R p)) → zJ l Xi mX13_roundEnds d 0 0 2 [some (.ref 74), some (.ref a), some (.int (nI p))] [] (J, g) post := by
    intro m
    induction m with
    | zero =>
      intro p hp J hI
      obtain rfl : p = bN b := by omega
      refine zJ_iload_n dX13_roundEnds_2 rfl ?_
      refine zJ_aload_n dX13_roundEnds_3 rfl ?_
      refine zP_getr lf_X13_23 (zSt_ob hs 74 13 rfl) rfl (zSt_rf hs 74 12 78 rfl) dX13_roundEnds_4 ?_
      refine zJ_iconst (v := nI 2) dX13_roundEnds_7 rfl ?_
      refine zP_iald (zSt_ar hs 78 4 rfl) (by first | assumption | with_reducible exact vp_in_nI (by omega) (by omega) | (simp (disch := omega) only [nI_add, pk_mul, pk_sub, pk_div, pk_rem, nI_clamp]; with_reducible exact vp_in_nI (by omega) (by omega))) dX13_roundEnds_8 ?_
      refine zJ_icmp_ge 63 dX13_roundEnds_9 (by decide) (fun _ => ?_) (fun c9 => absurd (by rw [nI_clamp (by omega), (rB_rS hB haa hI.1).2.1.2.2.1]; exact nI_le (by omega) (by omega)) c9)
      exact zJ_back (zle_r (zle_r (zle_n zle_0))) rfl (last J hI.1 (by rw [hQ]; exact hI.2))
    | succ m ih =>
      intro p hp J hI
      have hBJ : rB J b := rB_rS hB haa hI.1
      have h4 := hb.2.2.2.2.2.1 p (by omega)
      have hokp : okR b (rndN b R p) := okR_rndN hb hok (by omega)
      have hst := rnd_step (b := b) (R := R) (n := p)
      refine zJ_iload_n dX13_roundEnds_2 rfl ?_
      refine zJ_aload_n dX13_roundEnds_3 rfl ?_
      refine zP_getr lf_X13_23 (zSt_ob hs 74 13 rfl) rfl (zSt_rf hs 74 12 78 rfl) dX13_roundEnds_4 ?_
      refine zJ_iconst (v := nI 2) dX13_roundEnds_7 rfl ?_
      refine zP_iald (zSt_ar hs 78 4 rfl) (by first | assumption | with_reducible exact vp_in_nI (by omega) (by omega) | (simp (disch := omega) only [nI_add, pk_mul, pk_sub, pk_div, pk_rem, nI_clamp]; with_reducible exact vp_in_nI (by omega) (by omega))) dX13_roundEnds_8 ?_
      refine zJ_icmp_ge 63 dX13_roundEnds_9 (by decide) (fun c9 => absurd c9 (by rw [nI_clamp (by omega), hBJ.2.1.2.2.1]; exact nI_ge (by omega) (by omega))) (fun _ => ?_)
      refine zJ_aload_n dX13_roundEnds_12 rfl ?_
      refine zP_getr lf_X13_40 (zSt_ob hs 74 13 rfl) rfl (zSt_rf hs 74 17 89 rfl) dX13_roundEnds_13 ?_
      refine zJ_iload_n dX13_roundEnds_16 rfl ?_
      refine zP_rowK (k := p) (zSt_g89 hs) (by omega) (by decide) dX13_roundEnds_17 ?_
      refine zJ_iconst (v := nI 2) dX13_roundEnds_18 rfl ?_
      refine zP_iald (zGr_ar (zSt_g89 hs) (i := p) (by omega)) (by first | assumption | with_reducible exact vp_in_nI (by omega) (by omega) | (simp (disch := omega) only [nI_add, pk_mul, pk_sub, pk_div, pk_rem, nI_clamp]; with_reducible exact vp_in_nI (by omega) (by omega))) dX13_roundEnds_19 ?_
      rw [nI_clamp (by omega), (hBJ.2.2.2.1 p (by omega)).2]
      refine zJ_if_eq 57 dX13_roundEnds_20 (by decide) (fun c20 => ?_) (fun c20 => ?_)
      · skip
        refine zJ_iinc1 dX13_roundEnds_57 rfl (by decide) ?_
        refine zJ_goto 2 dX13_roundEnds_60 (by decide) ?_
        have hz : bpc b p = 0 := (nI_eq (by omega) (by omega)).mp (c20 : nI (bpc b p) = nI 0)
        have hsty : styM b (rndN b R p) p = true := by unfold styM; rw [decide_eq_true hz]; rfl
        rw [if_pos hsty] at hst
        exact zJ_back (zle_r (zle_r (zle_r zle_0))) rfl (ih (p + 1) (by omega) J ⟨hI.1, by rw [hst]; exact hI.2⟩)
      · skip
        refine zJ_aload_n dX13_roundEnds_23 rfl ?_
        refine zJ_aload_n dX13_roundEnds_24 rfl ?_
        refine zJ_iload_n dX13_roundEnds_25 rfl ?_
        refine zP_callVi [_, _] _ lv_X13_312 (m_isJoined (d := d - 1) hl (by omega) hs hBJ ha hI.2 (by omega)) (zSt_ob hs 74 13 rfl) rfl (by omega) (Nat.le_of_ble_eq_true rfl) rfl dX13_roundEnds_26 ?_
        refine zJ_if_eq 44 dX13_roundEnds_29 (by decide) (fun c29 => ?_) (fun c29 => ?_)
        · replace c29 := zb0.mp c29
          have hsty : styM b (rndN b R p) p = false := by unfold styM; rw [decide_eq_false (fun z => c20 (by rw [z]; rfl)), c29]; rfl
          rw [if_neg (by rw [hsty]; decide)] at hst
          have hpc : 0 < bpc b p := Nat.pos_of_ne_zero (fun z => c20 (by rw [z]; rfl))
          have hr0 : bpn b p 0 < 64 := (hb.2.2.2.2.2.2.1 p 0 (by omega) hpc).1
          obtain ⟨z1, z2⟩ := tea_T hb (show p < 6 by omega) hpc (hokp.1 p (by omega))
          have hokt : okR b (teaM b (rndN b R p) p) := okR_net hb hokp (by omega) z1 (fun q hq h => by omega) (fun j hj => tea_out hr0 hj)
          refine zJ_aload_n dX13_roundEnds_44 rfl ?_
          refine zJ_aload_n dX13_roundEnds_45 rfl ?_
          refine zJ_iload_n dX13_roundEnds_46 rfl ?_
          refine zP_ecallVi [_, _] _ lv_X13_344 (m_sheds (d := d - 1) hl (by omega) hs hBJ ha haa hI.2 hokp (by omega) hpc) (zSt_ob hs 74 13 rfl) rfl (by omega) (Nat.le_of_ble_eq_true rfl) rfl dX13_roundEnds_47 (fun x K hK => ?_)
          refine zJ_pop dX13_roundEnds_50 rfl ?_
          refine zJ_aload_n dX13_roundEnds_51 rfl ?_
          refine zJ_aload_n dX13_roundEnds_52 rfl ?_
          refine zJ_iload_n dX13_roundEnds_53 rfl ?_
          refine zP_ecallVv [_, _] _ lv_X13_329 (m_grows (d := d - 1) hl (by omega) hs (rB_rS hBJ haa hK.2.1) ha haa hK.2.2 hokt (by omega) z2) (zSt_ob hs 74 13 rfl) rfl (by omega) (Nat.le_of_ble_eq_true rfl) rfl dX13_roundEnds_54 (fun K2 hK2 => ?_)
          refine zJ_iinc1 dX13_roundEnds_57 rfl (by decide) ?_
          refine zJ_goto 2 dX13_roundEnds_60 (by decide) ?_
          exact zJ_back (zle_r (zle_r (zle_r zle_0))) rfl (ih (p + 1) (by omega) K2 ⟨rS_trans hI.1 (rS_trans hK.2.1 (rS_rH hK2.1)), by rw [hst]; exact hK2.2⟩)
        · replace c29 := zb1.mp c29
          refine zJ_aload_n dX13_roundEnds_32 rfl ?_
          refine zJ_aload_n dX13_roundEnds_33 rfl ?_
          refine zJ_iload_n dX13_roundEnds_34 rfl ?_
          refine zP_callVi [_, _] _ lv_X13_341 (m_overOf (d := d - 1) hl (by omega) hs hBJ ha hI.2 hokp (by omega)) (zSt_ob hs 74 13 rfl) rfl (by omega) (Nat.le_of_ble_eq_true rfl) rfl dX13_roundEnds_35 ?_
          refine zJ_if_ne 44 dX13_roundEnds_38 (by decide) (fun c38 => ?_) (fun c38 => ?_)
          · skip
            have hov : ovPl b (rndN b R p) p ≤ 64 := cB_le
            have hsty : styM b (rndN b R p) p = false := by unfold styM; rw [decide_eq_false (fun z => c20 (by rw [z]; rfl)), c29, decide_eq_false (fun z => c38 (by rw [cntF_nI]; exact congrArg nI z))]; rfl
            rw [if_neg (by rw [hsty]; decide)] at hst
            have hpc : 0 < bpc b p := Nat.pos_of_ne_zero (fun z => c20 (by rw [z]; rfl))
            have hr0 : bpn b p 0 < 64 := (hb.2.2.2.2.2.2.1 p 0 (by omega) hpc).1
            obtain ⟨z1, z2⟩ := tea_T hb (show p < 6 by omega) hpc (hokp.1 p (by omega))
            have hokt : okR b (teaM b (rndN b R p) p) := okR_net hb hokp (by omega) z1 (fun q hq h => by omega) (fun j hj => tea_out hr0 hj)
            refine zJ_aload_n dX13_roundEnds_44 rfl ?_
            refine zJ_aload_n dX13_roundEnds_45 rfl ?_
            refine zJ_iload_n dX13_roundEnds_46 rfl ?_
            refine zP_ecallVi [_, _] _ lv_X13_344 (m_sheds (d := d - 1) hl (by omega) hs hBJ ha haa hI.2 hokp (by omega) hpc) (zSt_ob hs 74 13 rfl) rfl (by omega) (Nat.le_of_ble_eq_true rfl) rfl dX13_roundEnds_47 (fun x K hK => ?_)
            refine zJ_pop dX13_roundEnds_50 rfl ?_
            refine zJ_aload_n dX13_roundEnds_51 rfl ?_
            refine zJ_aload_n dX13_roundEnds_52 rfl ?_
            refine zJ_iload_n dX13_roundEnds_53 rfl ?_
            refine zP_ecallVv [_, _] _ lv_X13_329 (m_grows (d := d - 1) hl (by omega) hs (rB_rS hBJ haa hK.2.1) ha haa hK.2.2 hokt (by omega) z2) (zSt_ob hs 74 13 rfl) rfl (by omega) (Nat.le_of_ble_eq_true rfl) rfl dX13_roundEnds_54 (fun K2 hK2 => ?_)
            refine zJ_iinc1 dX13_roundEnds_57 rfl (by decide) ?_
            refine zJ_goto 2 dX13_roundEnds_60 (by decide) ?_
            exact zJ_back (zle_r (zle_r (zle_r zle_0))) rfl (ih (p + 1) (by omega) K2 ⟨rS_trans hI.1 (rS_trans hK.2.1 (rS_rH hK2.1)), by rw [hst]; exact hK2.2⟩)
          · skip
            refine zJ_goto 57 dX13_roundEnds_41 (by decide) ?_
            refine zJ_iinc1 dX13_roundEnds_57 rfl (by decide) ?_
            refine zJ_goto 2 dX13_roundEnds_60 (by decide) ?_
            have hov : ovPl b (rndN b R p) p ≤ 64 := cB_le
            rw [cntF_nI] at c38
            have h0 : ovPl b (rndN b R p) p = 0 := (nI_eq (by omega) (by omega)).mp (show nI (ovPl b (rndN b R p) p) = nI 0 from c38)
            have hsty : styM b (rndN b R p) p = true := by unfold styM; rw [c29, decide_eq_true h0]; simp
            rw [if_pos hsty] at hst
            exact zJ_back (zle_r (zle_r (zle_r zle_0))) rfl (ih (p + 1) (by omega) J ⟨hI.1, by rw [hst]; exact hI.2⟩)
  refine zJ_iconst (v := nI 0) dX13_roundEnds_0 rfl ?_
  refine zJ_istore_m 2 dX13_roundEnds_1 rfl (Nat.le_of_ble_eq_true rfl) (by decide) ?_
  exact nets (bN b) 0 (by omega) I ⟨rS_rfl, hR⟩
theorem mor_eas {h v : Int32} : morI (nI 0) (h - v) = if h - v ≤ 0 then 0 else h - v := by
  obtain ⟨x, hx⟩ : ∃ x, h - v = x := ⟨_, rfl⟩
  rw [hx]
  unfold morI
  by_cases z1 : x ≤ 0
  · rw [if_pos z1]
    by_cases z2 : nI 0 ≤ x
    · rw [if_pos z2]; exact Int32.le_antisymm z1 z2
    · rw [if_neg z2]; rfl
  · rw [if_neg z1]; exact if_pos (show nI 0 ≤ x from Int32.le_of_lt (Int32.not_le.mp z1))
def easN (R : rwT) (v : Int32) (m : Nat) : rwT := fun k => if 384 ≤ k ∧ k < 384 + m then (if R k - v ≤ 0 then 0 else R k - v) else R k
theorem m_eases (hl : l.stackTraces = false) (hd : 2 ≤ d) {b : zWo} {R : rwT} {a : Nat} {v : Int32} (ha : zAr g a 519) (hR : rRow I a b R) (hN : bN b ≤ 6) : zEv l Xi mX13_eases d [.ref a, .int v] I g (fun J => fOn a I J ∧ rRow J a b (easM R v)) := by
  refine zC_of hl rfl rfl rfl (Nat.le_of_ble_eq_true rfl) (zav_r ha.1 (zav_i zav_0)) ?_
  have loop : ∀ m p, p + m = 64 → ∀ (J : zI), (fOn a I J ∧ rRow J a b (easN R v p)) → zJ l Xi mX13_eases d 0 0 2 [some (.ref a), some (.int v), some (.int (nI p))] [] (J, g) (fun r' h' => r' = .inl none ∧ ∃ I', h' = (I', g) ∧ fOn a I I' ∧ rRow I' a b (easM R v)) := by
    intro m
    induction m with
    | zero =>
      intro p hp J hI
      obtain rfl : p = 64 := by omega
      refine zJ_iload_n dX13_eases_2 rfl ?_
      refine zJ_bipush (v := nI 64) dX13_eases_3 rfl ?_
      refine zJ_icmp_ge 34 dX13_eases_5 (by decide) (fun _ => ?_) (fun c5 => absurd (nI_le (by omega) (by omega)) c5)
      refine zJ_vret rfl dX13_eases_34 ?_
      exact ⟨rfl, J, rfl, hI.1, hI.2⟩
    | succ m ih =>
      intro p hp J hI
      have hk : easN R v p (384 + p) = R (384 + p) := if_neg (by omega)
      refine zJ_iload_n dX13_eases_2 rfl ?_
      refine zJ_bipush (v := nI 64) dX13_eases_3 rfl ?_
      refine zJ_icmp_ge 34 dX13_eases_5 (by decide) (fun c5 => absurd c5 (nI_ge (by omega) (by omega))) (fun _ => ?_)
      refine zJ_aload_n dX13_eases_8 rfl ?_
      refine zJ_sipush (v := nI 384) dX13_eases_9 rfl ?_
      refine zJ_iload_n dX13_eases_12 rfl ?_
      refine zJ_iadd dX13_eases_13 ?_
      rw [nI_add]
      refine zJ_iconst (v := nI 0) dX13_eases_14 rfl ?_
      refine zJ_aload_n dX13_eases_15 rfl ?_
      refine zJ_sipush (v := nI 384) dX13_eases_16 rfl ?_
      refine zJ_iload_n dX13_eases_19 rfl ?_
      refine zJ_iadd dX13_eases_20 ?_
      rw [nI_add]
      refine zP_iald ha (by first | assumption | with_reducible exact vp_in_nI (by omega) (by omega) | (simp (disch := omega) only [nI_add, pk_mul, pk_sub, pk_div, pk_rem, nI_clamp]; with_reducible exact vp_in_nI (by omega) (by omega))) dX13_eases_21 ?_
      rw [nI_clamp (by omega), hI.2.1 _ (by omega), hk]
      refine zJ_iload_n dX13_eases_22 rfl ?_
      refine zJ_isub dX13_eases_23 ?_
      refine zP_callSi [_, _] _ ls_X13_262 (k_more (d := d - 1) hl (by omega)) rfl (by omega) (Nat.le_of_ble_eq_true rfl) rfl dX13_eases_24 ?_
      refine zP_iast ha (by first | assumption | with_reducible exact vp_in_nI (by omega) (by omega) | (simp (disch := omega) only [nI_add, pk_mul, pk_sub, pk_div, pk_rem, nI_clamp]; with_reducible exact vp_in_nI (by omega) (by omega))) dX13_eases_27 ?_
      refine zJ_iinc1 dX13_eases_28 rfl (by decide) ?_
      refine zJ_goto 2 dX13_eases_31 (by decide) ?_
      rw [nI_clamp (by omega), mor_eas]
      refine zJ_back (zle_r (zle_r (zle_r zle_0))) rfl (ih (p + 1) (by omega) _ ⟨fun c hc => (zup_row hc).trans (hI.1 c hc), rRow_eq (rRow_upd hI.2 rfl (by omega)) (fun k hk2 => ?_) hN⟩)
      unfold easN
      by_cases z : k = 384 + p
      · subst z
        rw [upd_at, if_pos (by omega)]
      · rw [upd_ne z]
        by_cases z2 : 384 ≤ k ∧ k < 384 + p
        · rw [if_pos (by omega), if_pos z2]
        · rw [if_neg (by omega), if_neg z2]
  refine zJ_iconst (v := nI 0) dX13_eases_0 rfl ?_
  refine zJ_istore_m 2 dX13_eases_1 rfl (Nat.le_of_ble_eq_true rfl) (by decide) ?_
  exact loop 64 0 (by omega) I ⟨fun _ _ => rfl, rRow_eq hR (fun k hk => by unfold easN; rw [if_neg (by omega)]) hN⟩
theorem m_crits (hl : l.stackTraces = false) (hd : 1 ≤ d) {b : zWo} {R : rwT} {a n : Nat} {v : Int32} (ha : zAr g a 519) (hR : rRow I a b R) (hn : n < bN b) (hN : bN b ≤ 6) : zEi l Xi mX13_crits d [.ref a, .int (nI n), .int v] I g (fun x J => x = (if decide (¬ R (512 + n) = v) then 1 else 0) ∧ fOn a I J ∧ rRow J a b (upd R (512 + n) v)) := by
  refine zC_of hl rfl rfl rfl (Nat.le_of_ble_eq_true rfl) (zav_r ha.1 (zav_i (zav_i zav_0))) ?_
  refine zJ_aload_n dX13_crits_0 rfl ?_
  refine zJ_sipush (v := nI 512) dX13_crits_1 rfl ?_
  refine zJ_iload_n dX13_crits_4 rfl ?_
  refine zJ_iadd dX13_crits_5 ?_
  rw [nI_add]
  refine zP_iald ha (by first | assumption | with_reducible exact vp_in_nI (by omega) (by omega) | (simp (disch := omega) only [nI_add, pk_mul, pk_sub, pk_div, pk_rem, nI_clamp]; with_reducible exact vp_in_nI (by omega) (by omega))) dX13_crits_6 ?_
  rw [nI_clamp (by omega), hR.2.1 n hn]
  refine zJ_iload_n dX13_crits_7 rfl ?_
  refine zJ_icmp_ne 13 dX13_crits_8 (by decide) (fun c8 => ?_) (fun c8 => ?_)
  · skip
    refine zJ_aload_n dX13_crits_13 rfl ?_
    refine zJ_sipush (v := nI 512) dX13_crits_14 rfl ?_
    refine zJ_iload_n dX13_crits_17 rfl ?_
    refine zJ_iadd dX13_crits_18 ?_
    rw [nI_add]
    refine zJ_iload_n dX13_crits_19 rfl ?_
    refine zP_iast ha (by first | assumption | with_reducible exact vp_in_nI (by omega) (by omega) | (simp (disch := omega) only [nI_add, pk_mul, pk_sub, pk_div, pk_rem, nI_clamp]; with_reducible exact vp_in_nI (by omega) (by omega))) dX13_crits_20 ?_
    refine zJ_iconst (v := nI 1) dX13_crits_21 rfl ?_
    refine zJ_zret rfl (by decide) dX13_crits_22 ?_
    rw [nI_clamp (by omega)]
    exact ⟨_, _, rfl, rfl, by rw [decide_eq_true c8]; rfl, fun c hc => zup_row hc, rRow_upd hR rfl (by omega)⟩
  · skip
    refine zJ_iconst (v := nI 0) dX13_crits_11 rfl ?_
    refine zJ_zret rfl (by decide) dX13_crits_12 ?_
    refine ⟨_, I, rfl, rfl, by rw [decide_eq_false (fun z => z c8)]; rfl, fun _ _ => rfl, rRow_eq hR (fun k hk => ?_) hN⟩
    by_cases z : k = 512 + n
    · rw [z, upd_at]; exact c8.symm
    · rw [upd_ne z]
theorem bz_tab : ∀ m, m < 64 → ∀ N, N < 7 → (bitF (fun k => Nat.testBit m k) N = 0 ↔ cB (fun k => Nat.testBit m k) N = 0) := by decide +kernel
theorem bit_0 {f : Nat → Bool} {N : Nat} (hN : N ≤ 6) : bitF f N = 0 ↔ cB f N = 0 := by
  obtain ⟨m, hm, h⟩ := mask6 f
  rw [bitF_congr (fun k hk => h k (by omega)), bz_tab m hm N (by omega), cB_congr (f := f) (fun k hk => h k (by omega))]
theorem m_blocks (hl : l.stackTraces = false) (hd : 4 ≤ d) (hs : zSt g) {b : zWo} {R : rwT} (hB : rB I b) {a p : Nat} (ha : zAr g a 519) (hR : rRow I a b R) (hok : okR b R) (hp : p < 64) : zEi l Xi mX13_blocks d [.ref 74, .ref a, .int (nI p)] I g (fun x J => x = (if wlkB b R p then 1 else 0) ∧ fOn a I J ∧ rRow J a b (if wlkB b R p then upd R (448 + p) (nI 1 - R (448 + p)) else R)) := by
  refine zC_of hl rfl rfl rfl (Nat.le_of_ble_eq_true rfl) (zav_r (zSt_ob hs 74 13 rfl).1 (zav_r ha.1 (zav_i zav_0))) ?_
  have hN6 := hB.1.2.2.2.2.1
  refine zJ_aload_n dX13_blocks_0 rfl ?_
  refine zJ_aload_n dX13_blocks_1 rfl ?_
  refine zJ_iload_n dX13_blocks_2 rfl ?_
  refine zP_callVi [_, _] _ lv_X13_291 (k_users (d := d - 1) hl (by omega) hs hB ha hp) (zSt_ob hs 74 13 rfl) rfl (by omega) (Nat.le_of_ble_eq_true rfl) rfl dX13_blocks_3 ?_
  refine zJ_if_ne 17 dX13_blocks_6 (by decide) (fun c6 => ?_) (fun c6 => ?_)
  · skip
    refine zJ_iconst (v := nI 0) dX13_blocks_17 rfl ?_
    refine zJ_zret rfl (by decide) dX13_blocks_18 ?_
    have e : wlkB b R p = false := by
      unfold wlkB
      rw [decide_eq_false (fun z => c6 ((bit_0 hN6).mpr (by rw [r_users hB.1 hR hok hp]; exact z))), Bool.false_and]
    exact ⟨_, I, rfl, rfl, by rw [e]; rfl, fun _ _ => rfl, by rw [e]; exact hR⟩
  · skip
    refine zJ_aload_n dX13_blocks_9 rfl ?_
    refine zJ_iload_n dX13_blocks_10 rfl ?_
    refine zP_callVi [_] _ lv_X13_209 (k_pinned (d := d - 1) hl (by omega) hs hB hp) (zSt_ob hs 74 13 rfl) rfl (by omega) (Nat.le_of_ble_eq_true rfl) rfl dX13_blocks_11 ?_
    refine zJ_if_eq 19 dX13_blocks_14 (by decide) (fun c14 => ?_) (fun c14 => ?_)
    · skip
      refine zJ_aload_n dX13_blocks_19 rfl ?_
      refine zJ_sipush (v := nI 448) dX13_blocks_20 rfl ?_
      refine zJ_iload_n dX13_blocks_23 rfl ?_
      skip
      refine zJ_iadd dX13_blocks_24 ?_
      rw [nI_add]
      refine zJ_iconst (v := nI 1) dX13_blocks_25 rfl ?_
      refine zJ_aload_n dX13_blocks_26 rfl ?_
      refine zJ_sipush (v := nI 448) dX13_blocks_27 rfl ?_
      refine zJ_iload_n dX13_blocks_30 rfl ?_
      refine zJ_iadd dX13_blocks_31 ?_
      rw [nI_add]
      refine zP_iald ha (by first | assumption | with_reducible exact vp_in_nI (by omega) (by omega) | (simp (disch := omega) only [nI_add, pk_mul, pk_sub, pk_div, pk_rem, nI_clamp]; with_reducible exact vp_in_nI (by omega) (by omega))) dX13_blocks_32 ?_
      rw [nI_clamp (by omega), hR.1 _ (by omega)]
      refine zJ_isub dX13_blocks_33 ?_
      refine zP_iast ha (by first | assumption | with_reducible exact vp_in_nI (by omega) (by omega) | (simp (disch := omega) only [nI_add, pk_mul, pk_sub, pk_div, pk_rem, nI_clamp]; with_reducible exact vp_in_nI (by omega) (by omega))) dX13_blocks_34 ?_
      refine zJ_iconst (v := nI 1) dX13_blocks_35 rfl ?_
      refine zJ_zret rfl (by decide) dX13_blocks_36 ?_
      have e : wlkB b R p = true := by
        unfold wlkB
        rw [decide_eq_true (show usn R p = 0 by rw [← r_users hB.1 hR hok hp]; exact (bit_0 hN6).mp c6), decide_eq_true c14]; rfl
      rw [nI_clamp (by omega)]
      exact ⟨_, _, rfl, rfl, by rw [e]; rfl, fun c hc => zup_row hc, by rw [e]; exact rRow_upd hR rfl (by omega)⟩
    · skip
      refine zJ_iconst (v := nI 0) dX13_blocks_17 rfl ?_
      refine zJ_zret rfl (by decide) dX13_blocks_18 ?_
      have e : wlkB b R p = false := by
        unfold wlkB
        rw [decide_eq_false (p := bitF (pbB b p) (bN b) = 0) c14, Bool.and_false]
      exact ⟨_, I, rfl, rfl, by rw [e]; rfl, fun _ _ => rfl, by rw [e]; exact hR⟩
end ZRefI
