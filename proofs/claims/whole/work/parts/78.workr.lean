/-! ===== Work: its text read ===== -/
section ZWorkR
variable {l : Launch} {Xi : zXi} {d : Nat} {I : zI} {g : zG}
theorem pRS_sk {bs : Nat → Nat} {L N C R o A : Nat} : pRS bs L N C R o (sk bs L A) = pRS bs L N C R o A := by unfold pRS; rw [sk_sk, woE_sk]
theorem pRS_ok {bs : Nat → Nat} {L N C R o A A' : Nat} {t : tok} (h : pRS bs L N C R o A = .inr (t, A')) (hA : A ≤ L) : A + 3 ≤ A' ∧ A' ≤ L := by
  have hg : A ≤ sk bs L A := sp_g
  have hl : sk bs L A ≤ L := sp_l hA
  have hw : sk bs L A ≤ woE bs L A := sp_g
  have hwl : woE bs L A ≤ L := sp_l hl
  unfold pRS at h
  split at h
  · cases h
  · next k7 =>
    have hk := kdW_len k7
    split at h
    · split at h
      · cases h
      · obtain ⟨n, a1, e1, h⟩ := pbind_ok h
        obtain ⟨u, a2, e2, h⟩ := pbind_ok h
        cases h
        have p1 := pNum_ok e1 hwl
        have p2 := pSign_ok e2
        omega
    · obtain ⟨q, a1, e1, h⟩ := pbind_ok h
      obtain ⟨u, a2, e2, h⟩ := pbind_ok h
      cases h
      have p1 := pPrim_ok e1 hwl
      have p2 := pSign_ok e2
      omega
theorem pW_item {bs : Nat → Nat} {L N C R f o b A : Nat} : pW bs L N C R (f + 1) 1 o b A = pbind (pRS bs L N C R o A) fun t A => if t.1 = 6 then pbind (pW bs L N C R f 0 (o + 1) (b + 1) A) fun c A => pbind (pSign bs L 93 A) fun _ A => pbind (pSign bs L 59 A) fun _ A => .inr ([(6, t.2.1, b + 1 + c.length)] ++ c ++ [(7, b, 0)], A) else .inr ([t], A) := by
  rw [pW, if_neg (by decide)]
  unfold pRS
  by_cases k7 : kdW bs (sk bs L A) (woE bs L A) = 7
  · rw [if_pos k7, if_pos k7]; rfl
  · rw [if_neg k7, if_neg k7]
    by_cases k6 : kdW bs (sk bs L A) (woE bs L A) = 6
    · rw [if_pos k6, if_pos k6]
      by_cases o6 : 6 ≤ o
      · rw [if_pos o6, if_pos o6]; rfl
      · rw [if_neg o6, if_neg o6]
        simp only [pbind_assoc, pbind_inr, if_true]
    · rw [if_neg k6, if_neg k6]
      simp only [pbind_assoc, pbind_inr, k6, if_false]
theorem wk_ops {J : zI} {ts : List tok} {o : Nat} {ops ops' : Nat → Nat} (h : wk J ts o ops) (e : ∀ i, i < o → ops i = ops' i) : wk J ts o ops' := by
  obtain ⟨h1, h2, h3, h4, h5, h6⟩ := h
  exact ⟨h1, h2, h3, h4, h5, fun i hi => by rw [← e i hi]; exact h6 i hi⟩
theorem set_mid {ts c : List tok} {t t' : tok} : (ts ++ [t] ++ c).set ts.length t' = ts ++ [t'] ++ c := by
  rw [List.append_assoc, List.set_append_right _ _ (Nat.le_refl _), Nat.sub_self, List.append_assoc]
  rfl
set_option maxHeartbeats 2000000 in
theorem k_workRead (hl : l.stackTraces = false) (hd : 7 ≤ d) (hs : zSt g) {bs : Nat → Nat} {L F N C R : Nat} (ht : tX I bs L 0 F none) (hL : L ≤ 150) (hC : I 3 0 = nI C) (hR : I 3 1 = nI R) (hN : I 3 2 = nI N) (hC8 : C ≤ 8) (hR8 : R ≤ 8) (hN6 : N ≤ 6) : zEv l Xi mX11_read d [.ref 35, .ref 1, .ref 3] I g (fun J => fW I J ∧ ∃ A' F', pOk J bs L A' F' (pW bs L N C R 400 0 0 0 0) (fun ts => wk J ts 0 (fun _ => 0))) := by
  refine zC_of hl rfl rfl rfl (Nat.le_of_ble_eq_true rfl) (zav_r (zSt_ob hs 35 11 rfl).1 (zav_r (zSt_ob hs 1 10 rfl).1 (zav_r (zSt_ob hs 3 0 rfl).1 zav_0))) ?_
  obtain ⟨RR, hRR⟩ : ∃ RR, pW bs L N C R 400 0 0 0 0 = RR := ⟨_, rfl⟩
  rw [hRR]
  obtain ⟨HD, hHD⟩ : ∃ HD : zI → Nat → Prop, ∀ J i, HD J i = zJ l Xi mX11_read d 0 0 12 [some (.ref 35), some (.ref 1), some (.ref 3), some (.int (nI i))] [] (J, g) (fun r' h' => r' = .inl none ∧ ∃ J, h' = (J, g) ∧ fW I J ∧ ∃ A' F', pOk J bs L A' F' RR (fun ts => wk J ts 0 (fun _ => 0))) := ⟨fun J i => _, fun J i => rfl⟩
  have hErr : ∀ (J : zI) (i A F : Nat) (q : Nat × Nat), fW I J → tX J bs L A F (some q) → RR = .inl q → HD J i := by
    intro J i A F q hf htq hq
    rw [hHD, hq]
    refine zJ_iload_n dX11_read_12 rfl ?_
    refine zJ_sipush (v := nI 150) dX11_read_13 rfl ?_
    refine zJ_icmp_gt 82 dX11_read_16 (by decide) (fun c16 => ?_) (fun c16 => ?_)
    · skip
      refine zJ_vret rfl dX11_read_82 ?_
      exact ⟨rfl, J, rfl, hf, A, F, htq, fun x a z => by cases z⟩
    · skip
      refine zJ_aload_n dX11_read_19 rfl ?_
      refine zP_callVi [] _ lv_X11_34 (k_failed (d := d - 1) hl (by omega) hs htq) (zSt_ob hs 1 10 rfl) rfl (by omega) (Nat.le_of_ble_eq_true rfl) rfl dX11_read_20 ?_
      refine zJ_if_ne 40 dX11_read_23 (by decide) (fun _ => ?_) (fun c23 => absurd c23 (show ¬ ((1 : Int32) = 0) by decide))
      refine zJ_vret rfl dX11_read_40 ?_
      exact ⟨rfl, J, rfl, hf, A, F, htq, fun x a z => by cases z⟩
  have main : ∀ f, (∀ (o b A i F : Nat) (ts : List tok) (ops : Nat → Nat) (J : zI), fW I J → tX J bs L A F none → wk J ts o ops → b = ts.length → 2 * ts.length ≤ A → i ≤ A → pW bs L N C R f 0 o b A ≠ .inl (0, 0) → (∀ q, pW bs L N C R f 0 o b A = .inl q → RR = .inl q) → (∀ c A', pW bs L N C R f 0 o b A = .inr (c, A') → ∀ J' A'' F' i', fW I J' → tX J' bs L A'' F' none → wk J' (ts ++ c) o ops → sk bs L A'' = A' → 2 * (ts ++ c).length ≤ A'' → i' ≤ A'' → HD J' i') → HD J i) ∧ (∀ (o b A i F : Nat) (ts : List tok) (ops : Nat → Nat) (J : zI), fW I J → tX J bs L A F none → wk J ts o ops → b = ts.length → 2 * ts.length ≤ A → i ≤ A → pStop bs L o (sk bs L A) = false → pW bs L N C R f 1 o b A ≠ .inl (0, 0) → (∀ q, pW bs L N C R f 1 o b A = .inl q → RR = .inl q) → (∀ c A', pW bs L N C R f 1 o b A = .inr (c, A') → ∀ J' F' i', fW I J' → tX J' bs L A' F' none → wk J' (ts ++ c) o ops → 2 * (ts ++ c).length ≤ A' → i' ≤ A' → HD J' i') → HD J i) := by
    intro f
    induction f with
    | zero => exact ⟨fun o b A i F ts ops J _ _ _ _ _ _ h => absurd rfl h, fun o b A i F ts ops J _ _ _ _ _ _ _ h => absurd rfl h⟩
    | succ f ih =>
      obtain ⟨ihS, ihI⟩ := ih
      refine ⟨?_, ?_⟩
      · intro o b A i F ts ops J hf htA hw hb htl hi hne herr hcont
        have hle := tX_le htA
        rw [pW, if_pos rfl] at hne herr hcont
        cases hst : pStop bs L o (sk bs L A) with
        | true =>
          rw [hst] at hcont
          exact hcont [] (sk bs L A) rfl J A F i hf htA (by rw [List.append_nil]; exact hw) rfl (by rw [List.append_nil]; exact htl) hi
        | false =>
          rw [hst] at hne herr hcont
          simp only [Bool.false_eq_true, if_false] at hne herr hcont
          refine ihI o b A i F ts ops J hf htA hw hb htl hi hst (fun z => hne (by rw [z]; rfl)) (fun q z => herr q (by rw [z]; rfl)) (fun c A1 hc J1 F1 i1 hf1 ht1 hw1 htl1 hi1 => ?_)
          rw [hc] at hne herr hcont
          simp only [pbind] at hne herr hcont
          refine ihS o (b + c.length) A1 i1 F1 (ts ++ c) ops J1 hf1 ht1 hw1 (by rw [List.length_append, hb]) htl1 hi1 (fun z => hne (by rw [z])) (fun q z => herr q (by rw [z])) (fun c2 A2 hc2 J2 A3 F2 i2 hf2 ht2 hw2 hs2 htl2 hi2 => ?_)
          rw [hc2] at hcont
          rw [List.append_assoc] at hw2 htl2
          exact hcont (c ++ c2) A2 rfl J2 A3 F2 i2 hf2 ht2 hw2 hs2 htl2 hi2
      · intro o b A i F ts ops J hf htA hw hb htl hi hst hne herr hcont
        have hle := tX_le htA
        have hg : A ≤ sk bs L A := sp_g
        have hl2 : sk bs L A ≤ L := sp_l hle.1
        rw [pW_item] at hne herr hcont
        have hC9 : ∀ {K : zI}, fW I K → K 3 0 = nI C ∧ K 3 1 = nI R ∧ K 3 2 = nI N := fun h => by rw [h 3 (by decide) (by decide)]; exact ⟨hC, hR, hN⟩
        have ho6 := hw.2.2.2.2.1
        have hj : ∀ (J2 : zI) (A1 F1 : Nat), fW I J2 → pOk J2 bs L A1 F1 (pRS bs L N C R o A) (wkS J2 ts o ops) → HD J2 (i + 1) := by
          intro J2 A1 F1 hf2 hp
          cases hq : pRS bs L N C R o A with
          | inl q =>
            rw [hq] at hp
            exact hErr J2 (i + 1) A1 F1 q hf2 hp.1 (herr q (by rw [hq]; rfl))
          | inr q =>
            obtain ⟨t, A9⟩ := q
            rw [hq] at hp hne herr hcont
            simp only [pbind] at hne herr hcont
            obtain ⟨e1, e2⟩ := hp.2 t A9 rfl
            subst e1
            have hb3 := pRS_ok hq hle.1
            unfold wkS at e2
            have ht2 : tX J2 bs L A1 F1 none := hp.1
            by_cases t6 : t.1 = 6
            · rw [if_pos t6] at e2 hne herr hcont
              obtain ⟨hn40, ht0, hw2⟩ := e2
              have htt : t = (6, t.2.1, 0) := by rw [← ht0, ← t6]
              refine ihS (o + 1) (b + 1) A1 (i + 1) F1 (ts ++ [t]) (un ops o ts.length) J2 hf2 ht2 hw2 (by rw [List.length_append, hb]; rfl) (by rw [List.length_append, List.length_singleton]; omega) (by omega) (fun z => hne (by rw [z])) (fun q z => herr q (by rw [z])) (fun c A2 hc J3 A3 F3 i3 hf3 ht3 hw3 hs3 htl3 hi3 => ?_)
              obtain ⟨st1, st2⟩ := pW_stop hc
              rw [hc] at hne herr hcont
              simp only at hne herr hcont
              have hhit : hitB bs L A2 93 = true := by
                unfold pStop at st1
                rw [if_neg (by omega)] at st1
                exact st1
              have hlt := hit_lt hhit
              have hsg : pSign bs L 93 A2 = .inr ((), A2 + 1) := by unfold pSign; rw [st2, hhit]; rfl
              rw [hsg] at hne herr hcont
              simp only at hne herr hcont
              have hle3 := tX_le ht3
              have ho := hw3.2.2.2.1
              have hg3 : A3 ≤ sk bs L A3 := sp_g
              have hlen3 : (ts ++ [t] ++ c).length = ts.length + 1 + c.length := by rw [List.length_append, List.length_append, List.length_singleton]
              have hset : (ts ++ [t] ++ c).set ts.length (6, t.2.1, (ts ++ [t] ++ c).length) ++ [(7, b, 0)] = ts ++ ([(6, t.2.1, b + 1 + c.length)] ++ c ++ [(7, b, 0)]) := by
                rw [set_mid, hlen3, hb]
                simp only [List.append_assoc]
              rw [hHD]
              refine zJ_iload_n dX11_read_12 rfl ?_
              refine zJ_sipush (v := nI 150) dX11_read_13 rfl ?_
              refine zJ_icmp_gt 82 dX11_read_16 (by decide) (fun c16 => absurd c16 (nI_nlt (by omega) (by omega))) (fun _ => ?_)
              refine zJ_aload_n dX11_read_19 rfl ?_
              refine zP_callVi [] _ lv_X11_34 (k_failed (d := d - 1) hl (by omega) hs ht3) (zSt_ob hs 1 10 rfl) rfl (by omega) (Nat.le_of_ble_eq_true rfl) rfl dX11_read_20 ?_
              refine zJ_if_ne 40 dX11_read_23 (by decide) (fun c23 => absurd rfl c23) (fun _ => ?_)
              refine zJ_aload_n dX11_read_26 rfl ?_
              refine zP_geti lf_X11_31 (zSt_ob hs 35 11 rfl) rfl dX11_read_27 ?_
              rw [ho]
              refine zJ_if_ne 41 dX11_read_30 (by decide) (fun _ => ?_) (fun c30 => absurd c30 (nI_ne0 (by omega) (by omega)))
              refine zJ_aload_n dX11_read_41 rfl ?_
              refine zP_geti lf_X11_31 (zSt_ob hs 35 11 rfl) rfl dX11_read_42 ?_
              rw [ho]
              refine zJ_if_le 70 dX11_read_45 (by decide) (fun c45 => absurd c45 (nI_nle (by omega) (by omega))) (fun _ => ?_)
              refine zJ_aload_n dX11_read_48 rfl ?_
              refine zJ_bipush (v := nI 93) dX11_read_49 rfl ?_
              refine zP_ecallVi [_] _ lv_X11_43 (k_takes (c := 93) (d := d - 1) hl (by omega) hs ht3 (by omega)) (zSt_ob hs 1 10 rfl) rfl (by omega) (Nat.le_of_ble_eq_true rfl) rfl dX11_read_51 (fun x K hx => ?_)
              rw [hs3, hhit] at hx
              obtain ⟨rfl, f4, t4⟩ := hx
              refine zJ_if_eq 70 dX11_read_54 (by decide) (fun c54 => absurd c54 (show ¬ ((1 : Int32) = 0) by decide)) (fun _ => ?_)
              refine zJ_aload_n dX11_read_57 rfl ?_
              refine zP_ecallVv [] _ lv_X11_47 (k_closeAgain (n := t.2.1) (b := ts.length) (d := d - 1) hl (by omega) hs (wk_fT hw3 f4) (by omega) un_at (by rw [hlen3]; omega) (by rw [List.append_assoc, tk_r (Nat.le_refl _), Nat.sub_self]; exact htt)) (zSt_ob hs 35 11 rfl) rfl (by omega) (Nat.le_of_ble_eq_true rfl) rfl dX11_read_58 (fun K2 hK2 => ?_)
              obtain ⟨f5, e5, w5⟩ := hK2
              have t5 : tX K2 bs L (A2 + 1) A2 none := tX_of t4 e5 (f5 2 (by decide) (by decide))
              refine zJ_aload_n dX11_read_61 rfl ?_
              refine zJ_bipush (v := nI 59) dX11_read_62 rfl ?_
              refine zP_ecallVv [_] _ lv_X11_50 (k_needP (d := d - 1) hl (by omega) hs (pOk_0 t5) (by omega)) (zSt_ob hs 1 10 rfl) rfl (by omega) (Nat.le_of_ble_eq_true rfl) rfl dX11_read_64 (fun K3 hK3 => ?_)
              refine zJ_goto 76 dX11_read_67 (by decide) ?_
              refine zJ_iinc1 dX11_read_76 rfl (by decide) ?_
              refine zJ_goto 12 dX11_read_79 (by decide) ?_
              obtain ⟨f6, A6, F6, h6⟩ := hK3
              have fF : fW I K3 := fW_trans hf3 (fW_trans (fW_fT f4) (fW_trans f5 (fW_fT f6)))
              have e9 : (pbind (.inr ((), A2 + 1)) fun x A => pbind (pSign bs L 59 A) fun _ A => (.inr (x, A) : PR Unit)) = pbind (pSign bs L 59 (A2 + 1)) fun _ A => .inr ((), A) := rfl
              rw [e9] at h6
              have := hHD K3 (i3 + 1)
              refine this.mp ?_
              cases e6 : pSign bs L 59 (A2 + 1) with
              | inl q =>
                rw [e6] at h6
                exact hErr K3 (i3 + 1) A6 F6 q fF h6.1 (herr q (by rw [e6]))
              | inr q =>
                rw [e6] at h6 hcont
                obtain ⟨e7, -⟩ := h6.2 () q.2 rfl
                subst e7
                have p9 := pSign_ok (u := q.1) (A' := q.2) e6
                refine hcont _ q.2 rfl K3 F6 (i3 + 1) fF h6.1 ?_ ?_ ?_
                · have w6 := wk_fT w5 f6
                  rw [← hb, hb] at w6
                  rw [hset.symm.trans (by rw [hb])]
                  exact wk_ops w6 (fun i hi => un_ne (by omega))
                · have : A3 ≤ sk bs L A3 := sp_g
                  simp only [List.length_append, List.length_singleton] at htl3 ⊢; omega
                · have : A3 ≤ sk bs L A3 := sp_g
                  omega
            · rw [if_neg t6] at e2 hcont
              exact hcont [t] A1 rfl J2 F1 (i + 1) hf2 ht2 e2 (by rw [List.length_append, List.length_singleton]; omega) (by omega)
        have h70 : ∀ K, fT J K → tX K bs L (sk bs L A) (sk bs L A) none → zJ l Xi mX11_read d 0 0 70 [some (.ref 35), some (.ref 1), some (.ref 3), some (.int (nI i))] [] (K, g) (fun r' h' => r' = .inl none ∧ ∃ J, h' = (J, g) ∧ fW I J ∧ ∃ A' F', pOk J bs L A' F' RR (fun ts => wk J ts 0 (fun _ => 0))) := by
          intro K f1 t1
          have hfK := fW_trans hf (fW_fT f1)
          obtain ⟨c1, c2, c3⟩ := hC9 hfK
          refine zJ_aload_n dX11_read_70 rfl ?_
          refine zJ_aload_n dX11_read_71 rfl ?_
          refine zJ_aload_n dX11_read_72 rfl ?_
          refine zP_ecallVv [_, _] _ lv_X11_54 (k_readStep (o := o) (ts := ts) (ops := ops) (d := d - 1) hl (by omega) hs t1 (wk_fT hw f1) (by omega) c1 c2 c3 hC8 hR8 hN6) (zSt_ob hs 35 11 rfl) rfl (by omega) (Nat.le_of_ble_eq_true rfl) rfl dX11_read_73 (fun K2 hK2 => ?_)
          obtain ⟨f2, A1, F1, hp⟩ := hK2
          rw [pRS_sk] at hp
          refine zJ_iinc1 dX11_read_76 rfl (by decide) ?_
          refine zJ_goto 12 dX11_read_79 (by decide) ?_
          exact (hHD K2 (i + 1)).mp (hj K2 A1 F1 (fW_trans hfK f2) hp)
        rw [hHD]
        have ho := hw.2.2.2.1
        by_cases o0 : o = 0
        · rw [o0] at ho
          unfold pStop at hst
          rw [if_pos o0] at hst
          refine zJ_iload_n dX11_read_12 rfl ?_
          refine zJ_sipush (v := nI 150) dX11_read_13 rfl ?_
          refine zJ_icmp_gt 82 dX11_read_16 (by decide) (fun c16 => absurd c16 (nI_nlt (by omega) (by omega))) (fun _ => ?_)
          refine zJ_aload_n dX11_read_19 rfl ?_
          refine zP_callVi [] _ lv_X11_34 (k_failed (d := d - 1) hl (by omega) hs htA) (zSt_ob hs 1 10 rfl) rfl (by omega) (Nat.le_of_ble_eq_true rfl) rfl dX11_read_20 ?_
          refine zJ_if_ne 40 dX11_read_23 (by decide) (fun c23 => absurd rfl c23) (fun _ => ?_)
          refine zJ_aload_n dX11_read_26 rfl ?_
          refine zP_geti lf_X11_31 (zSt_ob hs 35 11 rfl) rfl dX11_read_27 ?_
          rw [ho]
          refine zJ_if_ne 41 dX11_read_30 (by decide) (fun c30 => absurd rfl c30) (fun _ => ?_)
          refine zJ_aload_n dX11_read_33 rfl ?_
          refine zP_ecallVi [] _ lv_X11_40 (k_ended (d := d - 1) hl (by omega) hs htA) (zSt_ob hs 1 10 rfl) rfl (by omega) (Nat.le_of_ble_eq_true rfl) rfl dX11_read_34 (fun x K hx => ?_)
          rw [hst] at hx
          obtain ⟨rfl, f1, t1⟩ := hx
          refine zJ_if_eq 41 dX11_read_37 (by decide) (fun _ => ?_) (fun c37 => absurd rfl c37)
          refine zJ_aload_n dX11_read_41 rfl ?_
          refine zP_geti lf_X11_31 (zSt_ob hs 35 11 rfl) rfl dX11_read_42 ?_
          rw [f1 35 (by decide), ho]
          refine zJ_if_le 70 dX11_read_45 (by decide) (fun _ => ?_) (fun c45 => absurd (by decide) c45)
          exact h70 K f1 t1
        · unfold pStop at hst
          rw [if_neg o0] at hst
          refine zJ_iload_n dX11_read_12 rfl ?_
          refine zJ_sipush (v := nI 150) dX11_read_13 rfl ?_
          refine zJ_icmp_gt 82 dX11_read_16 (by decide) (fun c16 => absurd c16 (nI_nlt (by omega) (by omega))) (fun _ => ?_)
          refine zJ_aload_n dX11_read_19 rfl ?_
          refine zP_callVi [] _ lv_X11_34 (k_failed (d := d - 1) hl (by omega) hs htA) (zSt_ob hs 1 10 rfl) rfl (by omega) (Nat.le_of_ble_eq_true rfl) rfl dX11_read_20 ?_
          refine zJ_if_ne 40 dX11_read_23 (by decide) (fun c23 => absurd rfl c23) (fun _ => ?_)
          refine zJ_aload_n dX11_read_26 rfl ?_
          refine zP_geti lf_X11_31 (zSt_ob hs 35 11 rfl) rfl dX11_read_27 ?_
          rw [ho]
          refine zJ_if_ne 41 dX11_read_30 (by decide) (fun _ => ?_) (fun c30 => absurd c30 (nI_ne0 (by omega) (by omega)))
          refine zJ_aload_n dX11_read_41 rfl ?_
          refine zP_geti lf_X11_31 (zSt_ob hs 35 11 rfl) rfl dX11_read_42 ?_
          rw [ho]
          refine zJ_if_le 70 dX11_read_45 (by decide) (fun c45 => absurd c45 (nI_nle (by omega) (by omega))) (fun _ => ?_)
          refine zJ_aload_n dX11_read_48 rfl ?_
          refine zJ_bipush (v := nI 93) dX11_read_49 rfl ?_
          refine zP_ecallVi [_] _ lv_X11_43 (k_takes (c := 93) (d := d - 1) hl (by omega) hs htA (by omega)) (zSt_ob hs 1 10 rfl) rfl (by omega) (Nat.le_of_ble_eq_true rfl) rfl dX11_read_51 (fun x K hx => ?_)
          rw [hst] at hx
          obtain ⟨rfl, f1, t1⟩ := hx
          refine zJ_if_eq 70 dX11_read_54 (by decide) (fun _ => ?_) (fun c54 => absurd rfl c54)
          exact h70 K f1 t1
  have hfin : ∀ (J : zI) (A F i : Nat) (ts : List tok) (ops : Nat → Nat), fW I J → tX J bs L A F none → wk J ts 0 ops → i ≤ A → L ≤ sk bs L A → RR = .inr (ts, sk bs L A) → HD J i := by
    intro J A F i ts ops hf htA hw hi hst hq
    have hle := tX_le htA
    have ho := hw.2.2.2.1
    rw [hHD, hq]
    refine zJ_iload_n dX11_read_12 rfl ?_
    refine zJ_sipush (v := nI 150) dX11_read_13 rfl ?_
    refine zJ_icmp_gt 82 dX11_read_16 (by decide) (fun c16 => absurd c16 (nI_nlt (by omega) (by omega))) (fun _ => ?_)
    refine zJ_aload_n dX11_read_19 rfl ?_
    refine zP_callVi [] _ lv_X11_34 (k_failed (d := d - 1) hl (by omega) hs htA) (zSt_ob hs 1 10 rfl) rfl (by omega) (Nat.le_of_ble_eq_true rfl) rfl dX11_read_20 ?_
    refine zJ_if_ne 40 dX11_read_23 (by decide) (fun c23 => absurd rfl c23) (fun _ => ?_)
    refine zJ_aload_n dX11_read_26 rfl ?_
    refine zP_geti lf_X11_31 (zSt_ob hs 35 11 rfl) rfl dX11_read_27 ?_
    rw [ho]
    refine zJ_if_ne 41 dX11_read_30 (by decide) (fun c30 => absurd rfl c30) (fun _ => ?_)
    refine zJ_aload_n dX11_read_33 rfl ?_
    refine zP_ecallVi [] _ lv_X11_40 (k_ended (d := d - 1) hl (by omega) hs htA) (zSt_ob hs 1 10 rfl) rfl (by omega) (Nat.le_of_ble_eq_true rfl) rfl dX11_read_34 (fun x K hx => ?_)
    rw [decide_eq_true hst] at hx
    obtain ⟨rfl, f1, t1⟩ := hx
    refine zJ_if_eq 41 dX11_read_37 (by decide) (fun c37 => absurd c37 (show ¬ ((1 : Int32) = 0) by decide)) (fun _ => ?_)
    refine zJ_vret rfl dX11_read_40 ?_
    exact ⟨rfl, K, rfl, fW_trans hf (fW_fT f1), _, _, t1, fun x a z => by cases z; exact ⟨rfl, wk_ops (wk_fT hw f1) (fun i hi => absurd hi (Nat.not_lt_zero _))⟩⟩
  have hne : pW bs L N C R 400 0 0 0 0 ≠ .inl (0, 0) := pW_fuel (Nat.zero_le _) (by simp; omega)
  refine zJ_aload_n dX11_read_0 rfl ?_
  refine zJ_iconst (v := nI 0) dX11_read_1 rfl ?_
  refine zP_puti lf_X11_27 (zSt_ob hs 35 11 rfl) rfl dX11_read_2 ?_
  refine zJ_aload_n dX11_read_5 rfl ?_
  refine zJ_iconst (v := nI 0) dX11_read_6 rfl ?_
  refine zP_puti lf_X11_31 (zSt_ob hs 35 11 rfl) rfl dX11_read_7 ?_
  refine zJ_iconst (v := nI 0) dX11_read_10 rfl ?_
  refine zJ_istore_m 3 dX11_read_11 rfl (Nat.le_of_ble_eq_true rfl) (by decide) ?_
  have hf0 : fW I (zup (zup I 35 1 (nI 0)) 35 2 (nI 0)) := fun a p q => by rw [zup_row (by omega), zup_row (by omega)]
  have hw0 : wk (zup (zup I 35 1 (nI 0)) 35 2 (nI 0)) [] 0 (fun _ => 0) := ⟨by rw [zup_same, upd_ne (by decide), zup_same, upd_at]; rfl, Nat.zero_le _, fun i hi => absurd hi (Nat.not_lt_zero _), by rw [zup_same, upd_at], Nat.zero_le _, fun i hi => absurd hi (Nat.not_lt_zero _)⟩
  have ht0 : tX (zup (zup I 35 1 (nI 0)) 35 2 (nI 0)) bs L 0 F none := tX_of ht (by rw [zup_row (by decide), zup_row (by decide)]) (by rw [zup_row (by decide), zup_row (by decide)])
  refine (hHD _ 0).mp ((main 400).1 0 0 0 0 F [] (fun _ => 0) _ hf0 ht0 hw0 rfl (Nat.zero_le _) (Nat.zero_le _) hne (fun q z => by rw [← hRR]; exact z) (fun c A' hc J' A'' F' i' hf' ht' hw' hs' htl' hi' => ?_))
  have st := (pW_stop hc).1
  unfold pStop at st
  rw [if_pos rfl] at st
  exact hfin J' A'' F' i' c _ hf' ht' hw' hi' (by rw [hs']; exact of_decide_eq_true st) (by rw [← hRR, hs']; exact hc)
end ZWorkR
