/-! ===== the reference: law ===== -/
section ZRefAP
variable {l : Launch} {Xi : zXi} {d : Nat} {I : zI} {g : zG}
def rlwQ (S : sT) (L : Nat) (I : zI) (v : Int32) (J : zI) : Prop := J 74 0 = nI 0 ∧ rO I J ∧ match pLaw S.1.2.1 L with
  | .inl q => v = errV q ∧ rI J (fltS S q.2)
  | .inr q => v = 1 ∧ rI J (lwS S q.1)
set_option maxHeartbeats 1000000 in
theorem m_law (hl : l.stackTraces = false) (hd : 48 ≤ d) (hs : zSt g) {S : sT} (hI : rI I S) {L : Nat} (hL : L ≤ S.1.1) (hL2 : L ≤ 150) : zEi l Xi mX13_law d [.ref 74, .int (nI L)] I g (rlwQ S L I) := by
  refine zC_of hl rfl rfl rfl (Nat.le_of_ble_eq_true rfl) (zav_r (zSt_ob hs 74 13 rfl).1 (zav_i zav_0)) ?_
  have hI0 := rI_rQ hI (rQ_thr (x := nI 0))
  have h600 := hI.1.2.1
  have htp : (zup I 74 0 (nI 0)) 74 1 = nI S.1.1 := hI0.1.1
  obtain ⟨bs, hbs⟩ : ∃ bs, S.1.2.1 = bs := ⟨_, rfl⟩
  obtain ⟨R, hR⟩ : ∃ R, pLaw bs L = R := ⟨_, rfl⟩
  have hR0 : R = pbind (pL bs L 2000 0 0 0) fun c A => if L ≤ sk bs L A then .inr (c, sk bs L A) else .inl (1, sk bs L A) := hR.symm
  obtain ⟨P, hP⟩ : ∃ P : zR → zH → Prop, P = (fun r' h' => ∃ v J, r' = .inl (some (.int v)) ∧ h' = (J, g) ∧ rlwQ S L I v J) := ⟨_, rfl⟩
  obtain ⟨E, hE⟩ : ∃ E : zI → Prop, E = fun J => (∀ a, a ≠ 74 → (a < 272 ∨ 431 < a) → J a = I a) ∧ (∀ k, k ≠ 0 → k ≠ 1 → k ≠ 2 → k ≠ 4 → k ≠ 5 → k ≠ 6 → k ≠ 7 → k ≠ 8 → k ≠ 21 → J 74 k = I 74 k) ∧ J 74 0 = nI 0 ∧ J 74 1 = nI 0 := ⟨_, rfl⟩
  have Efl : ∀ {J K : zI}, E J → fl3 J K → E K := by
    intro J K h1 h2
    rw [hE] at h1 ⊢
    exact ⟨fun a q1 q2 => (h2.1 a q1 q2).trans (h1.1 a q1 q2), fun k q0 q1 q2 q4 q5 q6 q7 q8 q9 => (h2.2 k q4 q5 q6 q8 q9).trans (h1.2.1 k q0 q1 q2 q4 q5 q6 q7 q8 q9), (h2.2 0 (by decide) (by decide) (by decide) (by decide) (by decide)).trans h1.2.2.1, (h2.2 1 (by decide) (by decide) (by decide) (by decide) (by decide)).trans h1.2.2.2⟩
  have bad : ∀ (J : zI) (A : Nat) (q : Nat × Nat), E J → rz J bs L A (some q) → R = .inl q → zJ l Xi mX13_law d 0 0 85 [some (.ref 74), some (.int (nI L))] [] (J, g) P := by
    intro J A q e hz hRq
    rw [hE] at e
    have hq := hz.2.2.2.2.2.2.1 q rfl
    have hne : ¬ J 74 5 = 0 := by rw [hz.2.2.2.2.1]; exact nI_ne0 (by show 0 < q.1; omega) (by show q.1 < _; omega)
    rw [hP]
    refine zJ_aload_n dX13_law_85 rfl ?_
    refine zP_geti lf_X13_123 (zSt_ob hs 74 13 rfl) rfl dX13_law_86 ?_
    refine zJ_if_eq 97 dX13_law_89 (by decide) (fun c89 => absurd c89 hne) (fun _ => ?_)
    refine zJ_aload_n dX13_law_92 rfl ?_
    refine zP_callVi [] _ lv_X13_196 (m_ends (d := d - 1) hl (by omega) hs hz) (zSt_ob hs 74 13 rfl) rfl (by omega) (Nat.le_of_ble_eq_true rfl) rfl dX13_law_93 ?_
    refine zJ_iret rfl dX13_law_96 ?_
    refine ⟨_, _, rfl, rfl, by rw [zup_same, upd_ne (by decide)]; exact e.2.2.1, fun a ha => by rw [zup_row (by omega)]; exact e.1 a (by omega) (by omega), ?_⟩
    rw [hbs, hR, hRq]
    refine ⟨rfl, ?_⟩
    unfold fltS
    exact rI_txt hI (fun a ha => by rw [zup_row (by omega)]; exact e.1 a (by omega) (by omega)) (fun k hk => by rw [zup_same, upd_ne (by omega)]; exact e.2.1 k (by omega) (by omega) (by omega) (by omega) (by omega) (by omega) (by omega) (by omega) (by omega)) (by rw [zup_same, upd_ne (by decide)]; exact e.2.2.2) (by rw [zup_same, upd_at])
  have good : ∀ (J : zI) (A : Nat) (cs : List Int32), E J → rz J bs L A none → rLw J cs → R = .inr (cs, A) → zJ l Xi mX13_law d 0 0 85 [some (.ref 74), some (.int (nI L))] [] (J, g) P := by
    intro J A cs e hz hw hRr
    rw [hE] at e
    have hok := pLaw_ok (bs := bs) (hR.trans hRr) hL2
    have h150 : cs.length ≤ 150 := hw.2.1
    rw [hP]
    refine zJ_aload_n dX13_law_85 rfl ?_
    refine zP_geti lf_X13_123 (zSt_ob hs 74 13 rfl) rfl dX13_law_86 ?_
    refine zJ_if_eq 97 dX13_law_89 (by decide) (fun _ => ?_) (fun c89 => absurd hz.2.2.2.2.1 c89)
    refine zJ_aload_n dX13_law_97 rfl ?_
    refine zJ_iconst (v := -1) dX13_law_98 rfl ?_
    refine zP_puti lf_X13_9 (zSt_ob hs 74 13 rfl) rfl dX13_law_99 ?_
    refine zJ_aload_n dX13_law_102 rfl ?_
    refine zJ_aload_n dX13_law_103 rfl ?_
    refine zP_geti lf_X13_227 (zSt_ob hs 74 13 rfl) rfl dX13_law_104 ?_
    rw [zup_same, upd_ne (by decide), hw.1]
    refine zP_puti lf_X13_212 (zSt_ob hs 74 13 rfl) rfl dX13_law_107 ?_
    refine zJ_aload_n dX13_law_110 rfl ?_
    refine zP_getr lf_X13_52 (zSt_ob hs 74 13 rfl) rfl (zSt_rf hs 74 23 271 rfl) dX13_law_111 ?_
    refine zJ_aload_n dX13_law_114 rfl ?_
    refine zP_getr lf_X13_49 (zSt_ob hs 74 13 rfl) rfl (zSt_rf hs 74 22 110 rfl) dX13_law_115 ?_
    refine zJ_aload_n dX13_law_118 rfl ?_
    refine zP_geti lf_X13_212 (zSt_ob hs 74 13 rfl) rfl dX13_law_119 ?_
    rw [zup_same, upd_at]
    refine zP_ecallSv [_, _, _] _ ls_X13_255 (m_laysLaw (d := d - 1) hl (by omega) hs (by omega)) rfl (by omega) (Nat.le_of_ble_eq_true rfl) rfl dX13_law_122 (fun K hK => ?_)
    refine zJ_iconst (v := nI 1) dX13_law_125 rfl ?_
    refine zJ_iret rfl dX13_law_126 ?_
    obtain ⟨k1, k2⟩ := hK
    have eK : ∀ a, a ≠ 74 → (a < 111 ∨ 270 < a) → K a = J a := fun a q1 q2 => by rw [k1 a (by omega), zup_row q1, zup_row q1]
    have fK : ∀ k, k ≠ 3 → k ≠ 20 → K 74 k = J 74 k := fun k q1 q2 => by rw [k1 74 (by decide), zup_same, upd_ne q2, zup_same, upd_ne q1]
    have k3 : K 74 3 = -1 := by rw [k1 74 (by decide), zup_same, upd_ne (by decide), zup_same, upd_at]
    have k20 : K 74 20 = nI cs.length := by rw [k1 74 (by decide), zup_same, upd_at]
    have eI : ∀ a, a ≠ 74 → (a < 111 ∨ 431 < a) → K a = I a := fun a q1 q2 => by rw [eK a q1 (by omega), e.1 a q1 (by omega)]
    have fI : ∀ k, k = 35 ∨ k = 36 ∨ k = 37 ∨ k = 38 → K 74 k = I 74 k := fun k hk => by rw [fK k (by omega) (by omega), e.2.1 k (by omega) (by omega) (by omega) (by omega) (by omega) (by omega) (by omega) (by omega) (by omega)]
    refine ⟨_, K, rfl, rfl, by rw [fK 0 (by decide) (by decide)]; exact e.2.2.1, fun a ha => eI a (by omega) (by omega), ?_⟩
    rw [hbs, hR, hRr]
    refine ⟨rfl, ?_⟩
    obtain ⟨i1, i2, i3, i4, i5, i6, i7, i8, i9, i10⟩ := hI
    have hN6 := i3.1.2.2.2.2.1
    unfold lwS
    rw [hbs]
    refine ⟨⟨by rw [fK 1 (by decide) (by decide)]; exact e.2.2.2, Nat.zero_le _, fun k hk => absurd hk (Nat.not_lt_zero _)⟩, k3, ⟨bdOk_lw i3.1 hok.1, by rw [eI 78 (by decide) (by decide)]; exact i3.2.1, by rw [eI 81 (by decide) (by decide)]; exact i3.2.2.1, fun n hn => ?_, fun n i hn hi => ?_, Or.inr ⟨hok.2, k20, fun i hi => ?_⟩⟩, rRow_of i4 (eI 533 (by decide) (by decide)), rLn_of i5 (fI 35 (by decide)) (fun a q1 q2 => eI a (by omega) (by omega)), rWs_of i6 (fI 36 (by decide)) (fun a q1 q2 => eI a (by omega) (by omega)), rIm_of i7 (fI 38 (by decide)) (fun a q1 q2 => eI a (by omega) (by omega)), by rw [fI 37 (by decide)]; exact i8, by rw [eI 76 (by decide) (by decide)]; exact i9, by rw [eI 76 (by decide) (by decide)]; exact i10⟩
    · have hn2 : n < bN S.2.1 := hn
      rw [eI _ (by omega) (by omega)]; exact i3.2.2.2.1 n hn2
    · have hn2 : n < bN S.2.1 := hn
      rw [eI _ (by omega) (by omega)]; exact i3.2.2.2.2.1 n i hn2 hi
    · have hi2 : i < cs.length := hi
      rw [k2 i 0 hi2 (by decide), k2 i 1 hi2 (by decide), zup_row (by omega), zup_row (by omega)]
      exact hw.2.2 i hi2
  rw [← hP]
  refine zJ_aload_n dX13_law_0 rfl ?_
  refine zJ_iconst (v := nI 0) dX13_law_1 rfl ?_
  refine zP_puti lf_X13_107 (zSt_ob hs 74 13 rfl) rfl dX13_law_2 ?_
  refine zJ_aload_n dX13_law_5 rfl ?_
  refine zJ_iload_n dX13_law_6 rfl ?_
  refine zJ_iconst (v := nI 0) dX13_law_7 rfl ?_
  refine zJ_aload_n dX13_law_8 rfl ?_
  refine zP_geti lf_X13_110 (zSt_ob hs 74 13 rfl) rfl dX13_law_9 ?_
  rw [htp]
  refine zP_callSi [_, _, _] _ ls_X13_141 (k_in (d := d - 1) hl (by omega)) rfl (by omega) (Nat.le_of_ble_eq_true rfl) rfl dX13_law_12 ?_
  rw [in_ok (Nat.zero_le _) hL (by omega)]
  refine zJ_if_eq 25 dX13_law_15 (by decide) (fun c15 => absurd c15 (by decide)) (fun _ => ?_)
  refine zJ_iload_n dX13_law_18 rfl ?_
  refine zJ_sipush (v := nI 150) dX13_law_19 rfl ?_
  refine zJ_icmp_le 29 dX13_law_22 (by decide) (fun _ => ?_) (fun c22 => absurd ((nI_leI (by omega) (by omega)).mpr hL2) c22)
  refine zJ_iconst (v := nI 0) dX13_law_29 rfl ?_
  refine zJ_iconst (v := nI 1) dX13_law_30 rfl ?_
  refine zJ_iconst (v := nI 1) dX13_law_31 rfl ?_
  refine zP_callVi [_, _, _] _ lv_X13_186 (m_badF (d := d - 1) hl (by omega) hs thr_at) (zSt_ob hs 74 13 rfl) rfl (by omega) (Nat.le_of_ble_eq_true rfl) rfl dX13_law_32 ?_
  refine zJ_if_eq 40 dX13_law_35 (by decide) (fun _ => ?_) (fun c35 => absurd rfl c35)
  refine zJ_aload_n dX13_law_40 rfl ?_
  refine zJ_iload_n dX13_law_41 rfl ?_
  refine zP_ecallVv [_] _ lv_X13_190 (m_starts (d := d - 1) hl (by omega) hs hI0.1 hL) (zSt_ob hs 74 13 rfl) rfl (by omega) (Nat.le_of_ble_eq_true rfl) rfl dX13_law_42 (fun J1 h1 => ?_)
  refine zJ_aload_n dX13_law_45 rfl ?_
  refine zJ_iconst (v := nI 0) dX13_law_46 rfl ?_
  refine zP_puti lf_X13_227 (zSt_ob hs 74 13 rfl) rfl dX13_law_47 ?_
  obtain ⟨a1, a2, a3, a4, a5⟩ := h1
  rw [hbs] at a2
  obtain ⟨K, hK⟩ : ∃ K, zup J1 74 21 (nI 0) = K := ⟨_, rfl⟩
  rw [hK]
  have eK : ∀ a, a ≠ 74 → K a = J1 a := fun a q => by rw [← hK, zup_row q]
  have fK : ∀ k, k ≠ 21 → K 74 k = J1 74 k := fun k q => by rw [← hK, zup_same, upd_ne q]
  have hEK : E K := by
    rw [hE]
    exact ⟨fun a q1 q2 => by rw [eK a q1, a1.1 a q1, zup_row q1], fun k q0 q1 q2 q4 q5 q6 q7 q8 q9 => by rw [fK k q9, a1.2 k q1 q2 q4 q5 q6 q7 q8, thr_ne q0], by rw [fK 0 (by decide), a1.2 0 (by decide) (by decide) (by decide) (by decide) (by decide) (by decide) (by decide)]; exact thr_at, by rw [fK 1 (by decide)]; exact a3⟩
  have zK : rz K bs L (sk bs L 0) none := rz_of a2 (fun k hk => fK k (by omega)) (eK 75 (by decide))
  have hLK : lR K bs L 0 (.inr ([], sk bs L 0)) := rP_mk zK ⟨⟨by rw [← hK, zup_same, upd_at]; rfl, by decide, fun i hi => absurd hi (Nat.not_lt_zero _)⟩, (fK 8 (by decide)).trans a5⟩
  have hne : pL bs L 2000 0 0 (sk bs L 0) ≠ .inl (0, 0) := by rw [pL_sk]; exact pL_fuel (Nat.zero_le _) (by unfold bndL; simp; omega)
  refine zJ_aload_n dX13_law_50 rfl ?_
  refine zP_ecallVv [] _ lv_X13_249 ((cm_law hl hs 2000).1 0 (d - 1) K bs L (sk bs L 0) [] (by omega) (by omega) hL2 hLK (Nat.zero_le _) hne) (zSt_ob hs 74 13 rfl) rfl (by omega) (Nat.le_of_ble_eq_true rfl) rfl dX13_law_51 (fun J2 h2 => ?_)
  obtain ⟨f2, p2⟩ := h2
  have e2 := Efl hEK f2
  rw [pL_sk] at p2
  cases hp : pL bs L 2000 0 0 0 with
  | inl q =>
    rw [hp] at p2 hR0
    obtain ⟨A2, z2, -⟩ := p2
    have hRq : R = .inl q := hR0
    have hq := z2.2.2.2.2.2.2.1 q rfl
    refine zJ_aload_n dX13_law_54 rfl ?_
    refine zP_ecallVv [] _ lv_X13_129 (m_blanks (d := d - 1) hl (by omega) hs z2) (zSt_ob hs 74 13 rfl) rfl (by omega) (Nat.le_of_ble_eq_true rfl) rfl dX13_law_55 (fun J3 h3 => ?_)
    refine zJ_aload_n dX13_law_58 rfl ?_
    refine zP_geti lf_X13_123 (zSt_ob hs 74 13 rfl) rfl dX13_law_59 ?_
    rw [h3.2.2.2.2.2.1]
    refine zJ_if_ne 85 dX13_law_62 (by decide) (fun _ => ?_) (fun c62 => absurd c62 (nI_ne0 (by show 0 < q.1; omega) (by show q.1 < _; omega)))
    exact bad J3 _ q (Efl e2 (fl3_ft h3.1)) h3.2 hRq
  | inr q =>
    obtain ⟨cs, A2⟩ := q
    rw [hp] at p2 hR0
    simp only [pbind, List.nil_append] at p2 hR0
    obtain ⟨z2, w2, -⟩ := rP_ok p2
    refine zJ_aload_n dX13_law_54 rfl ?_
    refine zP_ecallVv [] _ lv_X13_129 (m_blanks (d := d - 1) hl (by omega) hs z2) (zSt_ob hs 74 13 rfl) rfl (by omega) (Nat.le_of_ble_eq_true rfl) rfl dX13_law_55 (fun J3 h3 => ?_)
    obtain ⟨f3, z3⟩ := h3
    refine zJ_aload_n dX13_law_58 rfl ?_
    refine zP_geti lf_X13_123 (zSt_ob hs 74 13 rfl) rfl dX13_law_59 ?_
    refine zJ_if_ne 85 dX13_law_62 (by decide) (fun c62 => absurd z3.2.2.2.2.1 c62) (fun _ => ?_)
    refine zJ_aload_n dX13_law_65 rfl ?_
    refine zP_geti lf_X13_116 (zSt_ob hs 74 13 rfl) rfl dX13_law_66 ?_
    refine zJ_aload_n dX13_law_69 rfl ?_
    refine zP_geti lf_X13_113 (zSt_ob hs 74 13 rfl) rfl dX13_law_70 ?_
    rw [z3.2.2.1, z3.1]
    refine zJ_icmp_ge 85 dX13_law_73 (by decide) (fun c73 => ?_) (fun c73 => ?_)
    · skip
      have hskL := z3.2.2.2.1
      have hge : L ≤ sk bs L A2 := (nI_leI (by omega) (by omega)).mp c73
      rw [if_pos hge] at hR0
      exact good J3 _ cs (Efl e2 (fl3_ft f3)) z3 (rLw_ft w2 f3) hR0
    · skip
      refine zJ_aload_n dX13_law_76 rfl ?_
      refine zJ_iconst (v := nI 1) dX13_law_77 rfl ?_
      refine zJ_aload_n dX13_law_78 rfl ?_
      refine zP_geti lf_X13_116 (zSt_ob hs 74 13 rfl) rfl dX13_law_79 ?_
      rw [z3.2.2.1]
      refine zP_ecallVv [_, _] _ lv_X13_136 (m_wrong (d := d - 1) hl (by omega) hs z3 (by omega) (by omega) rfl) (zSt_ob hs 74 13 rfl) rfl (by omega) (Nat.le_of_ble_eq_true rfl) rfl dX13_law_82 (fun J4 h4 => ?_)
      have hskL := z3.2.2.2.1
      have hge : ¬ L ≤ sk bs L A2 := fun z => c73 (nI_le z (by omega))
      rw [if_neg hge] at hR0
      exact bad J4 _ (1, sk bs L A2) (Efl (Efl e2 (fl3_ft f3)) (fl3_ft h4.1)) h4.2 hR0
end ZRefAP
