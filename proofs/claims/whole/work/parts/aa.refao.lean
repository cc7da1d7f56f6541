/-! ===== the reference: a law's unit, law ===== -/
section ZRefAO
variable {l : Launch} {Xi : zXi} {d : Nat} {I : zI} {g : zG}
theorem wd_nl {bs : Nat → Nat} {L A : Nat} (h : ¬ (sk bs L A < L ∧ ltB bs (sk bs L A) = true)) {i : Nat} (hi : i < 20) : wdB bs (sk bs L A) (woE bs L A) i = false := by
  cases e : wdB bs (sk bs L A) (woE bs L A) i with
  | false => rfl
  | true =>
    have h1 := wd_len hi e
    have h2 : woE bs L A = sk bs L A := sp_no h
    omega
theorem kdN_nl {bs : Nat → Nat} {L A : Nat} (h : ¬ (sk bs L A < L ∧ ltB bs (sk bs L A) = true)) : kdN bs (sk bs L A) (woE bs L A) = 8 := by
  unfold kdN
  rw [wd_nl h (by decide), wd_nl h (by decide), wd_nl h (by decide), wd_nl h (by decide), wd_nl h (by decide), wd_nl h (by decide), wd_nl h (by decide), wd_nl h (by decide)]
  rfl
theorem lR_close {bs : Nat → Nat} {L o : Nat} {r : PR (List Int32)} (h : lR I bs L (o + 1) r) : lR (zup I 74 8 (I 74 8 - nI 1)) bs L o r := by
  refine rP_imp (rP_of h (fun k hk => by rw [zup_same, upd_ne (by omega)]) (zup_row (by decide))) (fun cs hc => ⟨rLw_of hc.1 (by rw [zup_same, upd_ne (by decide)]) (fun a q1 q2 => zup_row (by omega)), ?_⟩)
  rw [zup_same, upd_at, hc.2, pk_sub (by omega), Nat.add_sub_cancel]
set_option maxHeartbeats 2000000 in
theorem cm_one (hl : l.stackTraces = false) (hs : zSt g) {f : Nat} (hS : cR l Xi g mX13_sum 10 0 f) : cR l Xi g mX13_one 8 4 (f + 1) := by
  intro o d I bs L A cs ho hd hL h hlen hne
  refine zC_of hl rfl rfl rfl (Nat.le_of_ble_eq_true rfl) (zav_r (zSt_ob hs 74 13 rfl).1 zav_0) ?_
  obtain ⟨hz, hw, ho8⟩ := rP_ok h
  have hAL := hz.2.2.2.1
  obtain ⟨F, hF⟩ : ∃ F, sk bs L A = F := ⟨_, rfl⟩
  obtain ⟨W, hW⟩ : ∃ W, woE bs L A = W := ⟨_, rfl⟩
  have hW2 : sp (ltB bs) L F = W := by rw [← hF, ← hW]; rfl
  have hFA : A ≤ F := by rw [← hF]; exact sp_g
  have hFL : F ≤ L := by rw [← hF]; exact sp_l hAL
  have hWL : W ≤ L := by rw [← hW2]; exact sp_l hFL
  have hFW : F ≤ W := by rw [← hW2]; exact sp_g
  have hFF : sk bs L F = F := by rw [← hF]; exact sk_sk
  have nl := fun (hh : ¬ (F < L ∧ ltB bs F = true)) i (hi : i < 20) => (show wdB bs F W i = false by rw [← hF] at hh ⊢; rw [← hW]; exact wd_nl hh hi)
  have nk := fun (hh : ¬ (F < L ∧ ltB bs F = true)) => (show kdN bs F W = 8 by rw [← hF] at hh ⊢; rw [← hW]; exact kdN_nl hh)
  have hE : pL bs L (f + 1) 4 o A = (if decide (F < L) && dgB bs F then pbind (pNum bs L 0 1000 A) fun v A => .inr ([nI v], A)
    else if hitB bs L F 40 then (if 6 ≤ o then .inl (3, F) else pbind (pL bs L f 0 (o + 1) (F + 1)) fun c A => pbind (pSign bs L 41 A) fun _ A => .inr (c, A))
    else if wdB bs F W 13 || wdB bs F W 14 then
      (if 6 ≤ o then .inl (3, F) else pbind (pSign bs L 91 W) fun _ A1 => pbind (pL bs L f 0 (o + 1) A1) fun c A1 => pbind (pSign bs L 44 A1) fun _ A1 => pbind (pL bs L f 0 (o + 1) A1) fun c' A1 => pbind (pSign bs L 93 A1) fun _ A1 => .inr (c ++ c' ++ [if wdB bs F W 13 then nI 2005 else nI 2006], A1))
    else if kdN bs F W = 8 then .inl (1, F) else .inr ([nI (1000 + kdN bs F W)], W)) := by rw [← hF, ← hW]; rfl
  obtain ⟨P, hP⟩ : ∃ P : PR (List Int32) → zR → zH → Prop, P = (fun R r' h' => r' = .inl none ∧ ∃ J, h' = (J, g) ∧ fl3 I J ∧ lR J bs L o (pbind R fun c A => .inr (cs ++ c, A))) := ⟨_, rfl⟩
  have hPp : ∀ R, (fun r' h' => r' = .inl none ∧ ∃ J, h' = (J, g) ∧ fl3 I J ∧ lR J bs L o (pbind R fun c A => .inr (cs ++ c, A))) = P R := fun R => by rw [hP]
  have hgoal : ∀ R, zJ l Xi mX13_one d 0 0 0 [some (.ref 74), none, none] [] (I, g) (P R) → pL bs L (f + 1) 4 o A = R → zJ l Xi mX13_one d 0 0 0 [some (.ref 74), none, none] [] (I, g) (fun r' h' => r' = .inl none ∧ ∃ J, h' = (J, g) ∧ fl3 I J ∧ lR J bs L o (pbind (pL bs L (f + 1) 4 o A) fun c A => .inr (cs ++ c, A))) := fun R hj he => by rw [he, hPp R]; exact hj
  have st : ∀ {J : zI}, ft I J → rLw J cs ∧ J 74 8 = nI o := fun hf => ⟨rLw_ft hw hf, (hf.2 8 (by decide) (by decide) (by decide)).trans ho8⟩
  cases hdg : decide (F < L) && dgB bs F with
  | true =>
    rw [hdg, if_pos rfl] at hE
    have hd2 : F < L ∧ dgB bs F = true := by rw [Bool.and_eq_true, decide_eq_true_iff] at hdg; exact hdg
    have hdd : 48 ≤ bs F ∧ bs F ≤ 57 := by simpa [dgB] using hd2.2
    have hnl : ¬ (F < L ∧ ltB bs F = true) := fun q => by have : 97 ≤ bs F ∧ bs F ≤ 122 := by { simpa [ltB] using q.2 }
                                                          omega
    refine hgoal _ ?_ hE
    refine zJ_aload_n dX13_one_0 rfl ?_
    refine zP_geti lf_X13_123 (zSt_ob hs 74 13 rfl) rfl dX13_one_1 ?_
    refine zJ_if_eq 8 dX13_one_4 (by decide) (fun _ => ?_) (fun c4 => absurd hz.2.2.2.2.1 c4)
    refine zJ_aload_n dX13_one_8 rfl ?_
    refine zP_ecallVv [] _ lv_X13_129 (m_blanks (d := d - 1) hl (by omega) hs hz) (zSt_ob hs 74 13 rfl) rfl (by omega) (Nat.le_of_ble_eq_true rfl) rfl dX13_one_9 (fun J0 h0 => ?_)
    obtain ⟨f0, z0⟩ := h0
    rw [hF] at z0
    refine zJ_aload_n dX13_one_12 rfl ?_
    refine zJ_bipush (v := nI 12) dX13_one_13 rfl ?_
    refine zJ_iconst (v := nI 5) dX13_one_15 rfl ?_
    refine zJ_iconst (v := nI 1) dX13_one_16 rfl ?_
    refine zJ_bipush (v := nI 19) dX13_one_17 rfl ?_
    refine zJ_bipush (v := nI 20) dX13_one_19 rfl ?_
    refine zJ_iconst (v := nI 0) dX13_one_21 rfl ?_
    refine zP_ecallVi [_, _, _, _, _, _] _ lv_X13_156 (m_isWord (i := 13) (d := d - 1) hl (by omega) hs z0 hFF hW2 (by decide) (by decide +kernel)) (zSt_ob hs 74 13 rfl) rfl (by omega) (Nat.le_of_ble_eq_true rfl) rfl dX13_one_22 (fun v1 J1 h1 => ?_)
    obtain ⟨rfl, f1, z1⟩ := h1
    rw [nl hnl 13 (by decide)]
    refine zJ_if_eq 33 dX13_one_25 (by decide) (fun _ => ?_) (fun c25 => absurd rfl c25)
    refine zJ_aload_n dX13_one_33 rfl ?_
    refine zJ_bipush (v := nI 13) dX13_one_34 rfl ?_
    refine zJ_bipush (v := nI 15) dX13_one_36 rfl ?_
    refine zJ_bipush (v := nI 19) dX13_one_38 rfl ?_
    refine zJ_bipush (v := nI 20) dX13_one_40 rfl ?_
    refine zJ_iconst (v := nI 0) dX13_one_42 rfl ?_
    refine zJ_iconst (v := nI 0) dX13_one_43 rfl ?_
    refine zP_ecallVi [_, _, _, _, _, _] _ lv_X13_156 (m_isWord (i := 14) (d := d - 1) hl (by omega) hs z1 hFF hW2 (by decide) (by decide +kernel)) (zSt_ob hs 74 13 rfl) rfl (by omega) (Nat.le_of_ble_eq_true rfl) rfl dX13_one_44 (fun v2 J2 h2 => ?_)
    obtain ⟨rfl, f2, z2⟩ := h2
    rw [nl hnl 14 (by decide)]
    refine zJ_if_eq 55 dX13_one_47 (by decide) (fun _ => ?_) (fun c47 => absurd rfl c47)
    refine zJ_iconst (v := -1) dX13_one_55 rfl ?_
    refine zJ_istore_m 1 dX13_one_56 rfl (Nat.le_of_ble_eq_true rfl) (by decide) ?_
    refine zJ_iload_n dX13_one_57 rfl ?_
    refine zJ_iconst (v := -1) dX13_one_58 rfl ?_
    refine zJ_icmp_eq 117 dX13_one_59 (by decide) (fun _ => ?_) (fun c59 => absurd rfl c59)
    refine zJ_aload_n dX13_one_117 rfl ?_
    refine zJ_aload_n dX13_one_118 rfl ?_
    refine zP_geti lf_X13_116 (zSt_ob hs 74 13 rfl) rfl dX13_one_119 ?_
    rw [z2.2.2.1]
    refine zP_callVi [_] _ lv_X13_119 (m_byteAt (d := d - 1) hl (by omega) hs z2 (by omega)) (zSt_ob hs 74 13 rfl) rfl (by omega) (Nat.le_of_ble_eq_true rfl) rfl dX13_one_122 ?_
    refine zJ_bipush (v := nI 40) dX13_one_125 rfl ?_
    refine zJ_icmp_ne 169 dX13_one_127 (by decide) (fun _ => ?_) (fun c127 => absurd c127 (fun q => by rw [by_eq (fun y => (z2.2.2.2.2.2.2.2 _ y).2) (by omega)] at q; unfold hitB at q; rw [Bool.and_eq_true, decide_eq_true_iff, decide_eq_true_iff] at q; omega))
    refine zJ_aload_n dX13_one_169 rfl ?_
    refine zP_ecallVi [] _ lv_X13_252 (m_knownHere (d := d - 1) hl (by omega) hs z2 hFF hW2) (zSt_ob hs 74 13 rfl) rfl (by omega) (Nat.le_of_ble_eq_true rfl) rfl dX13_one_170 (fun v3 J3 h3 => ?_)
    obtain ⟨rfl, f3, z3⟩ := h3
    rw [nk hnl, if_pos rfl] at z3
    rw [nk hnl, if_pos rfl]
    refine zJ_istore_m 2 dX13_one_173 rfl (Nat.le_of_ble_eq_true rfl) (by decide) ?_
    refine zJ_iload_n dX13_one_174 rfl ?_
    refine zJ_iconst (v := -1) dX13_one_175 rfl ?_
    refine zJ_icmp_eq 188 dX13_one_176 (by decide) (fun _ => ?_) (fun c176 => absurd rfl c176)
    refine zJ_aload_n dX13_one_188 rfl ?_
    refine zJ_iconst (v := nI 0) dX13_one_189 rfl ?_
    refine zJ_aload_n dX13_one_190 rfl ?_
    refine zJ_iconst (v := nI 0) dX13_one_191 rfl ?_
    refine zJ_sipush (v := nI 999) dX13_one_192 rfl ?_
    refine zP_ecallVi [_, _] _ lv_X13_169 (m_number0 (lo := 0) (hi := 1000) (d := d - 1) hl (by omega) hs z3 (by omega) (by omega) rfl (show nI 999 = nI 1000 - nI 1 by decide)) (zSt_ob hs 74 13 rfl) rfl (by omega) (Nat.le_of_ble_eq_true rfl) rfl dX13_one_195 (fun v4 J4 h4 => ?_)
    obtain ⟨f4, p4⟩ := h4
    have e4 : pNum bs L 0 1000 F = pNum bs L 0 1000 A := by rw [← hF, pNum_sk]
    rw [e4] at p4
    have hff : ft I J4 := ft_trans (ft_trans (ft_trans (ft_trans f0 f1) f2) f3) f4
    cases hpn : pNum bs L 0 1000 A with
    | inl q =>
      rw [hpn] at p4
      rw [hP]
      refine zP_ecallVv [_, _] _ lv_X13_236 (m_notesL (r := .inl q) (c := 0) (L := L) (bs := bs) (o := o) (d := d - 1) hl (by omega) hs (rP_chg (q := q) p4) (fun q hq => by cases hq) (fun cs a hq => by cases hq)) (zSt_ob hs 74 13 rfl) rfl (by omega) (Nat.le_of_ble_eq_true rfl) rfl dX13_one_198 (fun J5 h5 => ?_)
      refine zJ_vret rfl dX13_one_201 ?_
      exact ⟨rfl, J5, rfl, fl3_trans (fl3_ft hff) h5.1, rP_chg (q := q) h5.2⟩
    | inr q =>
      obtain ⟨v, A1⟩ := q
      rw [hpn] at p4
      obtain ⟨z4, hv, -, hv2⟩ := rP_ok p4
      have pk := pNum_ok hpn hAL
      subst hv
      rw [hP]
      refine zP_ecallVv [_, _] _ lv_X13_236 (m_notesL (r := .inr (cs, A1)) (c := nI v) (L := L) (bs := bs) (o := o) (d := d - 1) hl (by omega) hs (rP_mk z4 (st hff)) (fun q hq => Or.inl ⟨v, by omega, rfl, rfl, rfl⟩) (fun c1 a1 hq => by cases hq; omega)) (zSt_ob hs 74 13 rfl) rfl (by omega) (Nat.le_of_ble_eq_true rfl) rfl dX13_one_198 (fun J5 h5 => ?_)
      refine zJ_vret rfl dX13_one_201 ?_
      exact ⟨rfl, J5, rfl, fl3_trans (fl3_ft hff) h5.1, h5.2⟩
  | false =>
    rw [hdg, if_neg (by decide)] at hE
    cases hpa : hitB bs L F 40 with
    | true =>
      have hb40 : F < L ∧ bs F = 40 := by unfold hitB at hpa; rw [Bool.and_eq_true, decide_eq_true_iff, decide_eq_true_iff] at hpa; exact hpa
      have hnl : ¬ (F < L ∧ ltB bs F = true) := fun q => by
        have h9 : 97 ≤ bs F ∧ bs F ≤ 122 := by simpa [ltB] using q.2
        omega
      rw [hpa, if_pos rfl] at hE
      by_cases h6 : 6 ≤ o
      · rw [if_pos h6] at hE
        refine hgoal _ ?_ hE
        refine zJ_aload_n dX13_one_0 rfl ?_
        refine zP_geti lf_X13_123 (zSt_ob hs 74 13 rfl) rfl dX13_one_1 ?_
        refine zJ_if_eq 8 dX13_one_4 (by decide) (fun _ => ?_) (fun c4 => absurd hz.2.2.2.2.1 c4)
        refine zJ_aload_n dX13_one_8 rfl ?_
        refine zP_ecallVv [] _ lv_X13_129 (m_blanks (d := d - 1) hl (by omega) hs hz) (zSt_ob hs 74 13 rfl) rfl (by omega) (Nat.le_of_ble_eq_true rfl) rfl dX13_one_9 (fun J0 h0 => ?_)
        obtain ⟨f0, z0⟩ := h0
        rw [hF] at z0
        refine zJ_aload_n dX13_one_12 rfl ?_
        refine zJ_bipush (v := nI 12) dX13_one_13 rfl ?_
        refine zJ_iconst (v := nI 5) dX13_one_15 rfl ?_
        refine zJ_iconst (v := nI 1) dX13_one_16 rfl ?_
        refine zJ_bipush (v := nI 19) dX13_one_17 rfl ?_
        refine zJ_bipush (v := nI 20) dX13_one_19 rfl ?_
        refine zJ_iconst (v := nI 0) dX13_one_21 rfl ?_
        refine zP_ecallVi [_, _, _, _, _, _] _ lv_X13_156 (m_isWord (i := 13) (d := d - 1) hl (by omega) hs z0 hFF hW2 (by decide) (by decide +kernel)) (zSt_ob hs 74 13 rfl) rfl (by omega) (Nat.le_of_ble_eq_true rfl) rfl dX13_one_22 (fun v1 J1 h1 => ?_)
        obtain ⟨rfl, f1, z1⟩ := h1
        rw [nl hnl 13 (by decide)]
        refine zJ_if_eq 33 dX13_one_25 (by decide) (fun _ => ?_) (fun c25 => absurd rfl c25)
        refine zJ_aload_n dX13_one_33 rfl ?_
        refine zJ_bipush (v := nI 13) dX13_one_34 rfl ?_
        refine zJ_bipush (v := nI 15) dX13_one_36 rfl ?_
        refine zJ_bipush (v := nI 19) dX13_one_38 rfl ?_
        refine zJ_bipush (v := nI 20) dX13_one_40 rfl ?_
        refine zJ_iconst (v := nI 0) dX13_one_42 rfl ?_
        refine zJ_iconst (v := nI 0) dX13_one_43 rfl ?_
        refine zP_ecallVi [_, _, _, _, _, _] _ lv_X13_156 (m_isWord (i := 14) (d := d - 1) hl (by omega) hs z1 hFF hW2 (by decide) (by decide +kernel)) (zSt_ob hs 74 13 rfl) rfl (by omega) (Nat.le_of_ble_eq_true rfl) rfl dX13_one_44 (fun v2 J2 h2 => ?_)
        obtain ⟨rfl, f2, z2⟩ := h2
        rw [nl hnl 14 (by decide)]
        refine zJ_if_eq 55 dX13_one_47 (by decide) (fun _ => ?_) (fun c47 => absurd rfl c47)
        refine zJ_iconst (v := -1) dX13_one_55 rfl ?_
        refine zJ_istore_m 1 dX13_one_56 rfl (Nat.le_of_ble_eq_true rfl) (by decide) ?_
        refine zJ_iload_n dX13_one_57 rfl ?_
        refine zJ_iconst (v := -1) dX13_one_58 rfl ?_
        refine zJ_icmp_eq 117 dX13_one_59 (by decide) (fun _ => ?_) (fun c59 => absurd rfl c59)
        refine zJ_aload_n dX13_one_117 rfl ?_
        refine zJ_aload_n dX13_one_118 rfl ?_
        refine zP_geti lf_X13_116 (zSt_ob hs 74 13 rfl) rfl dX13_one_119 ?_
        rw [z2.2.2.1]
        refine zP_callVi [_] _ lv_X13_119 (m_byteAt (d := d - 1) hl (by omega) hs z2 (by omega)) (zSt_ob hs 74 13 rfl) rfl (by omega) (Nat.le_of_ble_eq_true rfl) rfl dX13_one_122 ?_
        refine zJ_bipush (v := nI 40) dX13_one_125 rfl ?_
        refine zJ_icmp_ne 169 dX13_one_127 (by decide) (fun c127 => absurd ((by_eq (fun y => (z2.2.2.2.2.2.2.2 _ y).2) (by omega)).mpr hpa) c127) (fun _ => ?_)
        refine zJ_aload_n dX13_one_130 rfl ?_
        refine zP_ecallVi [] _ lv_X13_245 (m_opensF (d := d - 1) hl (by omega) hs z2 (by rw [(st (ft_trans (ft_trans f0 f1) f2)).2, show o = 6 by omega])) (zSt_ob hs 74 13 rfl) rfl (by omega) (Nat.le_of_ble_eq_true rfl) rfl dX13_one_131 (fun v3 J3 h3 => ?_)
        obtain ⟨rfl, f3, z3⟩ := h3
        refine zJ_if_ne 138 dX13_one_134 (by decide) (fun c134 => absurd rfl c134) (fun _ => ?_)
        refine zJ_vret rfl dX13_one_137 ?_
        rw [hP]
        exact ⟨rfl, J3, rfl, fl3_ft (ft_trans (ft_trans (ft_trans f0 f1) f2) f3), rP_er z3⟩
      · rw [if_neg h6] at hE
        have hn1 : pL bs L f 0 (o + 1) (F + 1) ≠ .inl (0, 0) := fun z => hne (by rw [hE, z]; rfl)
        refine hgoal _ ?_ hE
        refine zJ_aload_n dX13_one_0 rfl ?_
        refine zP_geti lf_X13_123 (zSt_ob hs 74 13 rfl) rfl dX13_one_1 ?_
        refine zJ_if_eq 8 dX13_one_4 (by decide) (fun _ => ?_) (fun c4 => absurd hz.2.2.2.2.1 c4)
        refine zJ_aload_n dX13_one_8 rfl ?_
        refine zP_ecallVv [] _ lv_X13_129 (m_blanks (d := d - 1) hl (by omega) hs hz) (zSt_ob hs 74 13 rfl) rfl (by omega) (Nat.le_of_ble_eq_true rfl) rfl dX13_one_9 (fun J0 h0 => ?_)
        obtain ⟨f0, z0⟩ := h0
        rw [hF] at z0
        refine zJ_aload_n dX13_one_12 rfl ?_
        refine zJ_bipush (v := nI 12) dX13_one_13 rfl ?_
        refine zJ_iconst (v := nI 5) dX13_one_15 rfl ?_
        refine zJ_iconst (v := nI 1) dX13_one_16 rfl ?_
        refine zJ_bipush (v := nI 19) dX13_one_17 rfl ?_
        refine zJ_bipush (v := nI 20) dX13_one_19 rfl ?_
        refine zJ_iconst (v := nI 0) dX13_one_21 rfl ?_
        refine zP_ecallVi [_, _, _, _, _, _] _ lv_X13_156 (m_isWord (i := 13) (d := d - 1) hl (by omega) hs z0 hFF hW2 (by decide) (by decide +kernel)) (zSt_ob hs 74 13 rfl) rfl (by omega) (Nat.le_of_ble_eq_true rfl) rfl dX13_one_22 (fun v1 J1 h1 => ?_)
        obtain ⟨rfl, f1, z1⟩ := h1
        rw [nl hnl 13 (by decide)]
        refine zJ_if_eq 33 dX13_one_25 (by decide) (fun _ => ?_) (fun c25 => absurd rfl c25)
        refine zJ_aload_n dX13_one_33 rfl ?_
        refine zJ_bipush (v := nI 13) dX13_one_34 rfl ?_
        refine zJ_bipush (v := nI 15) dX13_one_36 rfl ?_
        refine zJ_bipush (v := nI 19) dX13_one_38 rfl ?_
        refine zJ_bipush (v := nI 20) dX13_one_40 rfl ?_
        refine zJ_iconst (v := nI 0) dX13_one_42 rfl ?_
        refine zJ_iconst (v := nI 0) dX13_one_43 rfl ?_
        refine zP_ecallVi [_, _, _, _, _, _] _ lv_X13_156 (m_isWord (i := 14) (d := d - 1) hl (by omega) hs z1 hFF hW2 (by decide) (by decide +kernel)) (zSt_ob hs 74 13 rfl) rfl (by omega) (Nat.le_of_ble_eq_true rfl) rfl dX13_one_44 (fun v2 J2 h2 => ?_)
        obtain ⟨rfl, f2, z2⟩ := h2
        rw [nl hnl 14 (by decide)]
        refine zJ_if_eq 55 dX13_one_47 (by decide) (fun _ => ?_) (fun c47 => absurd rfl c47)
        refine zJ_iconst (v := -1) dX13_one_55 rfl ?_
        refine zJ_istore_m 1 dX13_one_56 rfl (Nat.le_of_ble_eq_true rfl) (by decide) ?_
        refine zJ_iload_n dX13_one_57 rfl ?_
        refine zJ_iconst (v := -1) dX13_one_58 rfl ?_
        refine zJ_icmp_eq 117 dX13_one_59 (by decide) (fun _ => ?_) (fun c59 => absurd rfl c59)
        refine zJ_aload_n dX13_one_117 rfl ?_
        refine zJ_aload_n dX13_one_118 rfl ?_
        refine zP_geti lf_X13_116 (zSt_ob hs 74 13 rfl) rfl dX13_one_119 ?_
        rw [z2.2.2.1]
        refine zP_callVi [_] _ lv_X13_119 (m_byteAt (d := d - 1) hl (by omega) hs z2 (by omega)) (zSt_ob hs 74 13 rfl) rfl (by omega) (Nat.le_of_ble_eq_true rfl) rfl dX13_one_122 ?_
        refine zJ_bipush (v := nI 40) dX13_one_125 rfl ?_
        refine zJ_icmp_ne 169 dX13_one_127 (by decide) (fun c127 => absurd ((by_eq (fun y => (z2.2.2.2.2.2.2.2 _ y).2) (by omega)).mpr hpa) c127) (fun _ => ?_)
        refine zJ_aload_n dX13_one_130 rfl ?_
        refine zP_callVi [] _ lv_X13_245 (m_opensT (d := d - 1) (w := o) hl (by omega) hs z2 (st (ft_trans (ft_trans f0 f1) f2)).2 (by omega)) (zSt_ob hs 74 13 rfl) rfl (by omega) (Nat.le_of_ble_eq_true rfl) rfl dX13_one_131 ?_
        refine zJ_if_ne 138 dX13_one_134 (by decide) (fun _ => ?_) (fun c134 => absurd c134 (by decide))
        refine zJ_aload_n dX13_one_138 rfl ?_
        refine zJ_dup dX13_one_139 rfl ?_
        refine zP_geti lf_X13_116 (zSt_ob hs 74 13 rfl) rfl dX13_one_140 ?_
        rw [zup_same, upd_ne (by decide), z2.2.2.1]
        refine zJ_iconst (v := nI 1) dX13_one_143 rfl ?_
        refine zJ_iadd dX13_one_144 ?_
        rw [nI_add]
        refine zP_puti lf_X13_116 (zSt_ob hs 74 13 rfl) rfl dX13_one_145 ?_
        have hff : ft I J2 := ft_trans (ft_trans f0 f1) f2
        obtain ⟨K, hK⟩ : ∃ K, zup (zup J2 74 8 (nI (o + 1))) 74 4 (nI (F + 1)) = K := ⟨_, rfl⟩
        rw [hK]
        have e1 : ∀ a, a ≠ 74 → K a = J2 a := fun a ha => by rw [← hK, zup_row ha, zup_row ha]
        have e2 : ∀ k, k ≠ 8 → k ≠ 4 → K 74 k = J2 74 k := fun k q1 q2 => by rw [← hK, zup_same, upd_ne q2, zup_same, upd_ne q1]
        have e3 : K 74 8 = nI (o + 1) := by rw [← hK, zup_same, upd_ne (by decide), zup_same, upd_at]
        have zK : rz K bs L (F + 1) none := by rw [← hK]; exact rz_at (rz_of z2 (fun k hk => by rw [zup_same, upd_ne (by omega)]) (zup_row (by decide))) (by omega)
        have hfK : fl3 I K := ⟨fun a q1 q2 => by rw [e1 a q1]; exact hff.1 a q1, fun k q1 q2 q3 q4 q5 => by rw [e2 k q4 q1]; exact hff.2 k q1 q2 q3⟩
        have hLK : lR K bs L (o + 1) (.inr (cs, F + 1)) := rP_mk zK ⟨rLw_of (rLw_ft hw hff) (e2 21 (by decide) (by decide)) (fun a q1 q2 => e1 a (by omega)), e3⟩
        rw [hP]
        refine zJ_aload_n dX13_one_148 rfl ?_
        refine zP_ecallVv [] _ lv_X13_249 (hS (o + 1) (d - 1) K bs L (F + 1) cs (by omega) (by omega) hL hLK (by omega) hn1) (zSt_ob hs 74 13 rfl) rfl (by omega) (Nat.le_of_ble_eq_true rfl) rfl dX13_one_149 (fun J4 h4 => ?_)
        refine zJ_aload_n dX13_one_152 rfl ?_
        refine zJ_bipush (v := nI 41) dX13_one_153 rfl ?_
        refine zP_ecallVv [_] _ lv_X13_176 (m_signL (d := d - 1) hl (by omega) hs h4.2 (by omega)) (zSt_ob hs 74 13 rfl) rfl (by omega) (Nat.le_of_ble_eq_true rfl) rfl dX13_one_155 (fun J5 h5 => ?_)
        refine zJ_aload_n dX13_one_158 rfl ?_
        refine zJ_dup dX13_one_159 rfl ?_
        refine zP_geti lf_X13_166 (zSt_ob hs 74 13 rfl) rfl dX13_one_160 ?_
        refine zJ_iconst (v := nI 1) dX13_one_163 rfl ?_
        refine zJ_isub dX13_one_164 ?_
        refine zP_puti lf_X13_166 (zSt_ob hs 74 13 rfl) rfl dX13_one_165 ?_
        refine zJ_vret rfl dX13_one_168 ?_
        refine ⟨rfl, _, rfl, fl3_op (fl3_trans (fl3_trans hfK h4.1) h5.1), lR_eq (lR_close h5.2) ?_⟩
        simp only [pbind_assoc, pbind_inr]
    | false =>
      rw [hpa, if_neg (by decide)] at hE
      cases hlm : wdB bs F W 13 || wdB bs F W 14 with
      | true =>
        rw [hlm, if_pos rfl] at hE
        have hpair : ∀ (how : Nat), (how = if wdB bs F W 13 then 7 else 8) → ∀ (J : zI), ft I J → rz J bs L F none → zJ l Xi mX13_one d 0 0 62 [some (.ref 74), some (.int (nI how)), none] [] (J, g) (P (if 6 ≤ o then .inl (3, F) else pbind (pSign bs L 91 W) fun _ A1 => pbind (pL bs L f 0 (o + 1) A1) fun c A1 => pbind (pSign bs L 44 A1) fun _ A1 => pbind (pL bs L f 0 (o + 1) A1) fun c' A1 => pbind (pSign bs L 93 A1) fun _ A1 => .inr (c ++ c' ++ [if wdB bs F W 13 then nI 2005 else nI 2006], A1))) := by
          intro how hhow J hfJ hzJ
          have hcode : lpO (nI how) (nI 0) (if wdB bs F W 13 then nI 2005 else nI 2006) := by
            cases e13 : wdB bs F W 13 with
            | true => rw [e13] at hhow; rw [hhow]; exact Or.inr (Or.inr ⟨5, by decide, rfl, rfl⟩)
            | false => rw [e13] at hhow; rw [hhow]; exact Or.inr (Or.inr ⟨6, by decide, rfl, rfl⟩)
          by_cases h6 : 6 ≤ o
          · rw [if_pos h6]
            refine zJ_aload_n dX13_one_62 rfl ?_
            refine zP_ecallVi [] _ lv_X13_245 (m_opensF (d := d - 1) hl (by omega) hs hzJ (by rw [(st hfJ).2, show o = 6 by omega])) (zSt_ob hs 74 13 rfl) rfl (by omega) (Nat.le_of_ble_eq_true rfl) rfl dX13_one_63 (fun v3 J3 h3 => ?_)
            obtain ⟨rfl, f3, z3⟩ := h3
            refine zJ_if_ne 70 dX13_one_66 (by decide) (fun c66 => absurd rfl c66) (fun _ => ?_)
            refine zJ_vret rfl dX13_one_69 ?_
            rw [hP]
            exact ⟨rfl, J3, rfl, fl3_ft (ft_trans hfJ f3), rP_er z3⟩
          · rw [if_neg h6]
            rw [if_neg h6] at hE
            rw [hE] at hne
            obtain ⟨K, hK⟩ : ∃ K, zup J 74 8 (nI (o + 1)) = K := ⟨_, rfl⟩
            have e1 : ∀ a, a ≠ 74 → K a = J a := fun a ha => by rw [← hK, zup_row ha]
            have e2 : ∀ k, k ≠ 8 → K 74 k = J 74 k := fun k q1 => by rw [← hK, zup_same, upd_ne q1]
            have e3 : K 74 8 = nI (o + 1) := by rw [← hK, zup_same, upd_at]
            have zK : rz K bs L F none := rz_of hzJ (fun k hk => e2 k (by omega)) (e1 75 (by decide))
            have hfK : fl3 I K := ⟨fun a q1 q2 => by rw [e1 a q1]; exact hfJ.1 a q1, fun k q1 q2 q3 q4 q5 => by rw [e2 k q4]; exact hfJ.2 k q1 q2 q3⟩
            have hwK : rLw K cs := rLw_of (rLw_ft hw hfJ) (e2 21 (by decide)) (fun a q1 q2 => e1 a (by omega))
            refine zJ_aload_n dX13_one_62 rfl ?_
            refine zP_callVi [] _ lv_X13_245 (m_opensT (d := d - 1) (w := o) hl (by omega) hs hzJ (st hfJ).2 (by omega)) (zSt_ob hs 74 13 rfl) rfl (by omega) (Nat.le_of_ble_eq_true rfl) rfl dX13_one_63 ?_
            rw [hK]
            refine zJ_if_ne 70 dX13_one_66 (by decide) (fun _ => ?_) (fun c66 => absurd c66 (by decide))
            refine zJ_aload_n dX13_one_70 rfl ?_
            refine zP_ecallVv [] _ lv_X13_160 (m_skipWord (d := d - 1) hl (by omega) hs zK) (zSt_ob hs 74 13 rfl) rfl (by omega) (Nat.le_of_ble_eq_true rfl) rfl dX13_one_71 (fun J4 h4 => ?_)
            obtain ⟨f4, z4⟩ := h4
            rw [hW2] at z4
            have hL4 : lR J4 bs L (o + 1) (.inr (cs, W)) := rP_mk z4 ⟨rLw_ft hwK f4, (f4.2 8 (by decide) (by decide) (by decide)).trans e3⟩
            rw [hP]
            refine zJ_aload_n dX13_one_74 rfl ?_
            refine zJ_bipush (v := nI 91) dX13_one_75 rfl ?_
            refine zP_ecallVv [_] _ lv_X13_176 (m_signL (d := d - 1) hl (by omega) hs hL4 (by omega)) (zSt_ob hs 74 13 rfl) rfl (by omega) (Nat.le_of_ble_eq_true rfl) rfl dX13_one_77 (fun J5 h5 => ?_)
            simp only [pbind_inr] at h5
            refine zJ_aload_n dX13_one_80 rfl ?_
            refine zP_ecallVv [] _ lv_X13_249 (m_sumL (d := d - 1) hl hs hS (by omega) (by omega) hL h5.2 (fun c1 a1 z => by obtain ⟨u, a, z1, z2⟩ := pbind_ok z; cases z2; have := pSign_ok z1; omega) (fun c1 a1 z => by obtain ⟨u, a, z1, z2⟩ := pbind_ok z; cases z2; exact fun y => hne (by rw [z1, pbind_inr, y]; rfl))) (zSt_ob hs 74 13 rfl) rfl (by omega) (Nat.le_of_ble_eq_true rfl) rfl dX13_one_81 (fun J6 h6 => ?_)
            refine zJ_aload_n dX13_one_84 rfl ?_
            refine zJ_bipush (v := nI 44) dX13_one_85 rfl ?_
            refine zP_ecallVv [_] _ lv_X13_176 (m_signL (d := d - 1) hl (by omega) hs h6.2 (by omega)) (zSt_ob hs 74 13 rfl) rfl (by omega) (Nat.le_of_ble_eq_true rfl) rfl dX13_one_87 (fun J7 h7 => ?_)
            simp only [pbind_assoc, pbind_inr] at h7
            refine zJ_aload_n dX13_one_90 rfl ?_
            refine zP_ecallVv [] _ lv_X13_249 (m_sumL (d := d - 1) hl hs hS (by omega) (by omega) hL h7.2 (fun c1 a1 z => by obtain ⟨u, a, z1, z2⟩ := pbind_ok z; obtain ⟨c2, a2, z3, z4⟩ := pbind_ok z2; obtain ⟨u2, a4, z5, z6⟩ := pbind_ok z4; cases z6; have p1 := pSign_ok z1; have p2 := pL_ok z3 p1.2; have p3 := pSign_ok z5; rw [List.length_append]; omega) (fun c1 a1 z => by obtain ⟨u, a, z1, z2⟩ := pbind_ok z; obtain ⟨c2, a2, z3, z4⟩ := pbind_ok z2; obtain ⟨u2, a4, z5, z6⟩ := pbind_ok z4; cases z6; exact fun y => hne (by rw [z1, pbind_inr, z3, pbind_inr, z5, pbind_inr, y]; rfl))) (zSt_ob hs 74 13 rfl) rfl (by omega) (Nat.le_of_ble_eq_true rfl) rfl dX13_one_91 (fun J8 h8 => ?_)
            refine zJ_aload_n dX13_one_94 rfl ?_
            refine zJ_bipush (v := nI 93) dX13_one_95 rfl ?_
            refine zP_ecallVv [_] _ lv_X13_176 (m_signL (d := d - 1) hl (by omega) hs h8.2 (by omega)) (zSt_ob hs 74 13 rfl) rfl (by omega) (Nat.le_of_ble_eq_true rfl) rfl dX13_one_97 (fun J9 h9 => ?_)
            simp only [pbind_assoc, pbind_inr] at h9
            refine zJ_aload_n dX13_one_100 rfl ?_
            refine zJ_iload_n dX13_one_101 rfl ?_
            refine zJ_iconst (v := nI 0) dX13_one_102 rfl ?_
            refine zP_ecallVv [_, _] _ lv_X13_236 (m_notesL (c := if wdB bs F W 13 then nI 2005 else nI 2006) (d := d - 1) hl (by omega) hs h9.2 (fun q hq => hcode) (fun c1 a1 z => by obtain ⟨u, a, z1, z2⟩ := pbind_ok z; obtain ⟨c2, a2, z3, z4⟩ := pbind_ok z2; obtain ⟨u2, a4, z5, z6⟩ := pbind_ok z4; obtain ⟨c6, a6, z7, z8⟩ := pbind_ok z6; obtain ⟨u9, a9, z9, z10⟩ := pbind_ok z8; cases z10; have p1 := pSign_ok z1; have p2 := pL_ok z3 p1.2; have p3 := pSign_ok z5; have p4 := pL_ok z7 p3.2; have p5 := pSign_ok z9; rw [List.length_append, List.length_append]; omega)) (zSt_ob hs 74 13 rfl) rfl (by omega) (Nat.le_of_ble_eq_true rfl) rfl dX13_one_103 (fun J10 h10 => ?_)
            refine zJ_aload_n dX13_one_106 rfl ?_
            refine zJ_dup dX13_one_107 rfl ?_
            refine zP_geti lf_X13_166 (zSt_ob hs 74 13 rfl) rfl dX13_one_108 ?_
            refine zJ_iconst (v := nI 1) dX13_one_111 rfl ?_
            refine zJ_isub dX13_one_112 ?_
            refine zP_puti lf_X13_166 (zSt_ob hs 74 13 rfl) rfl dX13_one_113 ?_
            refine zJ_vret rfl dX13_one_116 ?_
            refine ⟨rfl, _, rfl, fl3_op (fl3_trans (fl3_trans (fl3_trans (fl3_trans (fl3_trans (fl3_trans (fl3_trans hfK (fl3_ft f4)) h5.1) h6.1) h7.1) h8.1) h9.1) h10.1), lR_eq (lR_close h10.2) ?_⟩
            simp only [pbind_assoc, pbind_inr, List.append_assoc]
        refine hgoal _ ?_ hE
        cases h13 : wdB bs F W 13 with
        | true =>
          refine zJ_aload_n dX13_one_0 rfl ?_
          refine zP_geti lf_X13_123 (zSt_ob hs 74 13 rfl) rfl dX13_one_1 ?_
          refine zJ_if_eq 8 dX13_one_4 (by decide) (fun _ => ?_) (fun c4 => absurd hz.2.2.2.2.1 c4)
          refine zJ_aload_n dX13_one_8 rfl ?_
          refine zP_ecallVv [] _ lv_X13_129 (m_blanks (d := d - 1) hl (by omega) hs hz) (zSt_ob hs 74 13 rfl) rfl (by omega) (Nat.le_of_ble_eq_true rfl) rfl dX13_one_9 (fun J0 h0 => ?_)
          obtain ⟨f0, z0⟩ := h0
          rw [hF] at z0
          refine zJ_aload_n dX13_one_12 rfl ?_
          refine zJ_bipush (v := nI 12) dX13_one_13 rfl ?_
          refine zJ_iconst (v := nI 5) dX13_one_15 rfl ?_
          refine zJ_iconst (v := nI 1) dX13_one_16 rfl ?_
          refine zJ_bipush (v := nI 19) dX13_one_17 rfl ?_
          refine zJ_bipush (v := nI 20) dX13_one_19 rfl ?_
          refine zJ_iconst (v := nI 0) dX13_one_21 rfl ?_
          refine zP_ecallVi [_, _, _, _, _, _] _ lv_X13_156 (m_isWord (i := 13) (d := d - 1) hl (by omega) hs z0 hFF hW2 (by decide) (by decide +kernel)) (zSt_ob hs 74 13 rfl) rfl (by omega) (Nat.le_of_ble_eq_true rfl) rfl dX13_one_22 (fun v1 J1 h1 => ?_)
          obtain ⟨rfl, f1, z1⟩ := h1
          rw [h13]
          refine zJ_if_eq 33 dX13_one_25 (by decide) (fun c25 => absurd c25 (by decide)) (fun _ => ?_)
          refine zJ_bipush (v := nI 7) dX13_one_28 rfl ?_
          refine zJ_goto 56 dX13_one_30 (by decide) ?_
          refine zJ_istore_m 1 dX13_one_56 rfl (Nat.le_of_ble_eq_true rfl) (by decide) ?_
          refine zJ_iload_n dX13_one_57 rfl ?_
          refine zJ_iconst (v := -1) dX13_one_58 rfl ?_
          refine zJ_icmp_eq 117 dX13_one_59 (by decide) (fun c59 => absurd c59 (by decide)) (fun _ => ?_)
          have h9 := hpair 7 (by rw [h13]; rfl) J1 (ft_trans f0 f1) z1
          rw [h13] at h9
          exact zJ_back (zle_r (zle_r (zle_n zle_0))) rfl h9
        | false =>
          have h14 : wdB bs F W 14 = true := by rw [h13, Bool.false_or] at hlm; exact hlm
          refine zJ_aload_n dX13_one_0 rfl ?_
          refine zP_geti lf_X13_123 (zSt_ob hs 74 13 rfl) rfl dX13_one_1 ?_
          refine zJ_if_eq 8 dX13_one_4 (by decide) (fun _ => ?_) (fun c4 => absurd hz.2.2.2.2.1 c4)
          refine zJ_aload_n dX13_one_8 rfl ?_
          refine zP_ecallVv [] _ lv_X13_129 (m_blanks (d := d - 1) hl (by omega) hs hz) (zSt_ob hs 74 13 rfl) rfl (by omega) (Nat.le_of_ble_eq_true rfl) rfl dX13_one_9 (fun J0 h0 => ?_)
          obtain ⟨f0, z0⟩ := h0
          rw [hF] at z0
          refine zJ_aload_n dX13_one_12 rfl ?_
          refine zJ_bipush (v := nI 12) dX13_one_13 rfl ?_
          refine zJ_iconst (v := nI 5) dX13_one_15 rfl ?_
          refine zJ_iconst (v := nI 1) dX13_one_16 rfl ?_
          refine zJ_bipush (v := nI 19) dX13_one_17 rfl ?_
          refine zJ_bipush (v := nI 20) dX13_one_19 rfl ?_
          refine zJ_iconst (v := nI 0) dX13_one_21 rfl ?_
          refine zP_ecallVi [_, _, _, _, _, _] _ lv_X13_156 (m_isWord (i := 13) (d := d - 1) hl (by omega) hs z0 hFF hW2 (by decide) (by decide +kernel)) (zSt_ob hs 74 13 rfl) rfl (by omega) (Nat.le_of_ble_eq_true rfl) rfl dX13_one_22 (fun v1 J1 h1 => ?_)
          obtain ⟨rfl, f1, z1⟩ := h1
          rw [h13]
          refine zJ_if_eq 33 dX13_one_25 (by decide) (fun _ => ?_) (fun c25 => absurd rfl c25)
          refine zJ_aload_n dX13_one_33 rfl ?_
          refine zJ_bipush (v := nI 13) dX13_one_34 rfl ?_
          refine zJ_bipush (v := nI 15) dX13_one_36 rfl ?_
          refine zJ_bipush (v := nI 19) dX13_one_38 rfl ?_
          refine zJ_bipush (v := nI 20) dX13_one_40 rfl ?_
          refine zJ_iconst (v := nI 0) dX13_one_42 rfl ?_
          refine zJ_iconst (v := nI 0) dX13_one_43 rfl ?_
          refine zP_ecallVi [_, _, _, _, _, _] _ lv_X13_156 (m_isWord (i := 14) (d := d - 1) hl (by omega) hs z1 hFF hW2 (by decide) (by decide +kernel)) (zSt_ob hs 74 13 rfl) rfl (by omega) (Nat.le_of_ble_eq_true rfl) rfl dX13_one_44 (fun v2 J2 h2 => ?_)
          obtain ⟨rfl, f2, z2⟩ := h2
          rw [h14]
          refine zJ_if_eq 55 dX13_one_47 (by decide) (fun c47 => absurd c47 (by decide)) (fun _ => ?_)
          refine zJ_bipush (v := nI 8) dX13_one_50 rfl ?_
          refine zJ_goto 56 dX13_one_52 (by decide) ?_
          refine zJ_istore_m 1 dX13_one_56 rfl (Nat.le_of_ble_eq_true rfl) (by decide) ?_
          refine zJ_iload_n dX13_one_57 rfl ?_
          refine zJ_iconst (v := -1) dX13_one_58 rfl ?_
          refine zJ_icmp_eq 117 dX13_one_59 (by decide) (fun c59 => absurd c59 (by decide)) (fun _ => ?_)
          have h9 := hpair 8 (by rw [h13]; rfl) J2 (ft_trans (ft_trans f0 f1) f2) z2
          rw [h13] at h9
          exact zJ_back (zle_r (zle_r (zle_n zle_0))) rfl h9
      | false =>
        have h13 : wdB bs F W 13 = false := (Bool.or_eq_false_iff.mp hlm).1
        have h14 : wdB bs F W 14 = false := (Bool.or_eq_false_iff.mp hlm).2
        rw [hlm, if_neg (by decide)] at hE
        refine hgoal _ ?_ hE
        refine zJ_aload_n dX13_one_0 rfl ?_
        refine zP_geti lf_X13_123 (zSt_ob hs 74 13 rfl) rfl dX13_one_1 ?_
        refine zJ_if_eq 8 dX13_one_4 (by decide) (fun _ => ?_) (fun c4 => absurd hz.2.2.2.2.1 c4)
        refine zJ_aload_n dX13_one_8 rfl ?_
        refine zP_ecallVv [] _ lv_X13_129 (m_blanks (d := d - 1) hl (by omega) hs hz) (zSt_ob hs 74 13 rfl) rfl (by omega) (Nat.le_of_ble_eq_true rfl) rfl dX13_one_9 (fun J0 h0 => ?_)
        obtain ⟨f0, z0⟩ := h0
        rw [hF] at z0
        refine zJ_aload_n dX13_one_12 rfl ?_
        refine zJ_bipush (v := nI 12) dX13_one_13 rfl ?_
        refine zJ_iconst (v := nI 5) dX13_one_15 rfl ?_
        refine zJ_iconst (v := nI 1) dX13_one_16 rfl ?_
        refine zJ_bipush (v := nI 19) dX13_one_17 rfl ?_
        refine zJ_bipush (v := nI 20) dX13_one_19 rfl ?_
        refine zJ_iconst (v := nI 0) dX13_one_21 rfl ?_
        refine zP_ecallVi [_, _, _, _, _, _] _ lv_X13_156 (m_isWord (i := 13) (d := d - 1) hl (by omega) hs z0 hFF hW2 (by decide) (by decide +kernel)) (zSt_ob hs 74 13 rfl) rfl (by omega) (Nat.le_of_ble_eq_true rfl) rfl dX13_one_22 (fun v1 J1 h1 => ?_)
        obtain ⟨rfl, f1, z1⟩ := h1
        rw [h13]
        refine zJ_if_eq 33 dX13_one_25 (by decide) (fun _ => ?_) (fun c25 => absurd rfl c25)
        refine zJ_aload_n dX13_one_33 rfl ?_
        refine zJ_bipush (v := nI 13) dX13_one_34 rfl ?_
        refine zJ_bipush (v := nI 15) dX13_one_36 rfl ?_
        refine zJ_bipush (v := nI 19) dX13_one_38 rfl ?_
        refine zJ_bipush (v := nI 20) dX13_one_40 rfl ?_
        refine zJ_iconst (v := nI 0) dX13_one_42 rfl ?_
        refine zJ_iconst (v := nI 0) dX13_one_43 rfl ?_
        refine zP_ecallVi [_, _, _, _, _, _] _ lv_X13_156 (m_isWord (i := 14) (d := d - 1) hl (by omega) hs z1 hFF hW2 (by decide) (by decide +kernel)) (zSt_ob hs 74 13 rfl) rfl (by omega) (Nat.le_of_ble_eq_true rfl) rfl dX13_one_44 (fun v2 J2 h2 => ?_)
        obtain ⟨rfl, f2, z2⟩ := h2
        rw [h14]
        refine zJ_if_eq 55 dX13_one_47 (by decide) (fun _ => ?_) (fun c47 => absurd rfl c47)
        refine zJ_iconst (v := -1) dX13_one_55 rfl ?_
        refine zJ_istore_m 1 dX13_one_56 rfl (Nat.le_of_ble_eq_true rfl) (by decide) ?_
        refine zJ_iload_n dX13_one_57 rfl ?_
        refine zJ_iconst (v := -1) dX13_one_58 rfl ?_
        refine zJ_icmp_eq 117 dX13_one_59 (by decide) (fun _ => ?_) (fun c59 => absurd rfl c59)
        refine zJ_aload_n dX13_one_117 rfl ?_
        refine zJ_aload_n dX13_one_118 rfl ?_
        refine zP_geti lf_X13_116 (zSt_ob hs 74 13 rfl) rfl dX13_one_119 ?_
        rw [z2.2.2.1]
        refine zP_callVi [_] _ lv_X13_119 (m_byteAt (d := d - 1) hl (by omega) hs z2 (by omega)) (zSt_ob hs 74 13 rfl) rfl (by omega) (Nat.le_of_ble_eq_true rfl) rfl dX13_one_122 ?_
        refine zJ_bipush (v := nI 40) dX13_one_125 rfl ?_
        refine zJ_icmp_ne 169 dX13_one_127 (by decide) (fun _ => ?_) (fun c127 => absurd c127 (fun q => by rw [by_eq (fun y => (z2.2.2.2.2.2.2.2 _ y).2) (by omega), hpa] at q; cases q))
        refine zJ_aload_n dX13_one_169 rfl ?_
        refine zP_ecallVi [] _ lv_X13_252 (m_knownHere (d := d - 1) hl (by omega) hs z2 hFF hW2) (zSt_ob hs 74 13 rfl) rfl (by omega) (Nat.le_of_ble_eq_true rfl) rfl dX13_one_170 (fun v3 J3 h3 => ?_)
        obtain ⟨hv3, f3, z3⟩ := h3
        have hff : ft I J3 := ft_trans (ft_trans (ft_trans f0 f1) f2) f3
        subst hv3
        rw [hP]
        by_cases h8 : kdN bs F W = 8
        · rw [if_pos h8] at z3
          rw [if_pos h8, if_pos h8]
          have hpn : pNum bs L 0 1000 F = .inl (1, F) := by
            have e : nuE bs L F = F := by
              unfold nuE
              rw [hFF]
              exact sp_no (fun q => by rw [decide_eq_true q.1, q.2] at hdg; cases hdg)
            unfold pNum nuX
            rw [hFF, if_pos e]
          refine zJ_istore_m 2 dX13_one_173 rfl (Nat.le_of_ble_eq_true rfl) (by decide) ?_
          refine zJ_iload_n dX13_one_174 rfl ?_
          refine zJ_iconst (v := -1) dX13_one_175 rfl ?_
          refine zJ_icmp_eq 188 dX13_one_176 (by decide) (fun _ => ?_) (fun c176 => absurd rfl c176)
          refine zJ_aload_n dX13_one_188 rfl ?_
          refine zJ_iconst (v := nI 0) dX13_one_189 rfl ?_
          refine zJ_aload_n dX13_one_190 rfl ?_
          refine zJ_iconst (v := nI 0) dX13_one_191 rfl ?_
          refine zJ_sipush (v := nI 999) dX13_one_192 rfl ?_
          refine zP_ecallVi [_, _] _ lv_X13_169 (m_number0 (lo := 0) (hi := 1000) (d := d - 1) hl (by omega) hs z3 (by omega) (by omega) rfl (show nI 999 = nI 1000 - nI 1 by decide)) (zSt_ob hs 74 13 rfl) rfl (by omega) (Nat.le_of_ble_eq_true rfl) rfl dX13_one_195 (fun v4 J4 h4 => ?_)
          rw [hpn] at h4
          refine zP_ecallVv [_, _] _ lv_X13_236 (m_notesL (r := .inl (1, F)) (c := 0) (L := L) (bs := bs) (o := o) (d := d - 1) hl (by omega) hs (rP_chg (q := (1, F)) h4.2) (fun q hq => by cases hq) (fun cs a hq => by cases hq)) (zSt_ob hs 74 13 rfl) rfl (by omega) (Nat.le_of_ble_eq_true rfl) rfl dX13_one_198 (fun J5 h5 => ?_)
          refine zJ_vret rfl dX13_one_201 ?_
          exact ⟨rfl, J5, rfl, fl3_trans (fl3_ft (ft_trans hff h4.1)) h5.1, rP_chg (q := (1, F)) h5.2⟩
        · have hk := kdN_len h8
          rw [if_neg h8] at z3
          rw [if_neg h8, if_neg h8]
          refine zJ_istore_m 2 dX13_one_173 rfl (Nat.le_of_ble_eq_true rfl) (by decide) ?_
          refine zJ_iload_n dX13_one_174 rfl ?_
          refine zJ_iconst (v := -1) dX13_one_175 rfl ?_
          refine zJ_icmp_eq 188 dX13_one_176 (by decide) (fun c176 => absurd c176 (nI_ne1 (by omega))) (fun _ => ?_)
          refine zJ_aload_n dX13_one_179 rfl ?_
          refine zJ_iconst (v := nI 1) dX13_one_180 rfl ?_
          refine zJ_iload_n dX13_one_181 rfl ?_
          refine zP_ecallVv [_, _] _ lv_X13_236 (m_notesL (r := .inr (cs, W)) (c := nI (1000 + kdN bs F W)) (L := L) (bs := bs) (o := o) (d := d - 1) hl (by omega) hs (rP_mk z3 (st hff)) (fun q hq => Or.inr (Or.inl ⟨kdN bs F W, hk.2, rfl, rfl, rfl⟩)) (fun c1 a1 hq => by cases hq; omega)) (zSt_ob hs 74 13 rfl) rfl (by omega) (Nat.le_of_ble_eq_true rfl) rfl dX13_one_182 (fun J5 h5 => ?_)
          refine zJ_goto 201 dX13_one_185 (by decide) ?_
          refine zJ_vret rfl dX13_one_201 ?_
          exact ⟨rfl, J5, rfl, fl3_trans (fl3_ft hff) h5.1, h5.2⟩
theorem cm_law (hl : l.stackTraces = false) (hs : zSt g) : ∀ f, cR l Xi g mX13_sum 10 0 f ∧ cR l Xi g mX13_product 9 2 f ∧ cR l Xi g mX13_one 8 4 f := by
  have z : ∀ (M : zM) (k m : Nat), cR l Xi g M k m 0 := fun M k m o d I bs L A cs _ _ _ _ _ hne => absurd rfl hne
  have main : ∀ n f, f ≤ n → cR l Xi g mX13_sum 10 0 f ∧ cR l Xi g mX13_product 9 2 f ∧ cR l Xi g mX13_one 8 4 f := by
    intro n
    induction n with
    | zero =>
      intro f hf
      obtain rfl : f = 0 := by omega
      exact ⟨z _ _ _, z _ _ _, z _ _ _⟩
    | succ n ih =>
      intro f hf
      cases f with
      | zero => exact ⟨z _ _ _, z _ _ _, z _ _ _⟩
      | succ f => exact ⟨cm_sum hl hs (fun k hk => (ih k (by omega)).2.1), cm_product hl hs (fun k hk => (ih k (by omega)).2.2), cm_one hl hs (ih f (by omega)).1⟩
  exact fun f => main f f (Nat.le_refl _)
theorem pL_sk4 {bs : Nat → Nat} {L f o A : Nat} : pL bs L f 4 o (sk bs L A) = pL bs L f 4 o A := by
  cases f with
  | zero => rfl
  | succ f => simp only [pL]; rw [sk_sk, woE_sk, pNum_sk]; rfl
theorem pL_sk {bs : Nat → Nat} {L f o A : Nat} : pL bs L f 0 o (sk bs L A) = pL bs L f 0 o A := by
  cases f with
  | zero => rfl
  | succ f =>
    have e : pL bs L f 2 o (sk bs L A) = pL bs L f 2 o A := by
      cases f with
      | zero => rfl
      | succ f =>
        show (pbind (pL bs L f 4 o (sk bs L A)) fun c A => pbind (pL bs L f 3 o A) fun c' A => (.inr (c ++ c', A) : PR (List Int32))) = pbind (pL bs L f 4 o A) fun c A => pbind (pL bs L f 3 o A) fun c' A => .inr (c ++ c', A)
        rw [pL_sk4]
    show (pbind (pL bs L f 2 o (sk bs L A)) fun c A => pbind (pL bs L f 1 o A) fun c' A => (.inr (c ++ c', A) : PR (List Int32))) = pbind (pL bs L f 2 o A) fun c A => pbind (pL bs L f 1 o A) fun c' A => .inr (c ++ c', A)
    rw [e]
end ZRefAO
