/-! ===== the reference: sums and products ===== -/
section ZRefAN
variable {l : Launch} {Xi : zXi} {d : Nat} {I : zI} {g : zG}
set_option maxHeartbeats 1000000 in
theorem cm_sum (hl : l.stackTraces = false) (hs : zSt g) {f : Nat} (hU : ∀ k, k ≤ f → cR l Xi g mX13_product 9 2 k) : cR l Xi g mX13_sum 10 0 (f + 1) := by
  intro o d I bs L A cs ho hd hL h hlen hne
  refine zC_of hl rfl rfl rfl (Nat.le_of_ble_eq_true rfl) (zav_r (zSt_ob hs 74 13 rfl).1 zav_0) ?_
  obtain ⟨R, hR⟩ : ∃ R, (pbind (pL bs L (f + 1) 0 o A) fun c A => (.inr (cs ++ c, A) : PR (List Int32))) = R := ⟨_, rfl⟩
  rw [hR]
  obtain ⟨P, hP⟩ : ∃ P : zR → zH → Prop, P = (fun r' h' => r' = .inl none ∧ ∃ J, h' = (J, g) ∧ fl3 I J ∧ lR J bs L o R) := ⟨_, rfl⟩
  have hR1 : R = pbind (pL bs L f 2 o A) fun c A => pbind (pL bs L f 1 o A) fun c' A => .inr (cs ++ (c ++ c'), A) := by
    rw [← hR]
    have e : pL bs L (f + 1) 0 o A = pbind (pL bs L f 2 o A) fun c A => pbind (pL bs L f 1 o A) fun c' A => .inr (c ++ c', A) := rfl
    rw [e]
    simp only [pbind_assoc, pbind_inr]
  have hne1 : pL bs L f 2 o A ≠ .inl (0, 0) := fun z => hne (by
    have e : pL bs L (f + 1) 0 o A = pbind (pL bs L f 2 o A) fun c A => pbind (pL bs L f 1 o A) fun c' A => .inr (c ++ c', A) := rfl
    rw [e, z]; rfl)
  have hne2 : ∀ c a, pL bs L f 2 o A = .inr (c, a) → pL bs L f 1 o a ≠ .inl (0, 0) := fun c a hc z => hne (by
    have e : pL bs L (f + 1) 0 o A = pbind (pL bs L f 2 o A) fun c A => pbind (pL bs L f 1 o A) fun c' A => .inr (c ++ c', A) := rfl
    rw [e, hc, pbind_inr, z]; rfl)
  have loop : ∀ k, k ≤ f → ∀ (J : zI) (B : Nat) (c0 : List Int32), fl3 I J → lR J bs L o (.inr (c0, B)) → c0.length ≤ B → pL bs L k 1 o B ≠ .inl (0, 0) → (pbind (pL bs L k 1 o B) fun c A => .inr (c0 ++ c, A)) = R → zJ l Xi mX13_sum d 0 0 4 [some (.ref 74), none] [] (J, g) P := by
    intro k
    induction k with
    | zero => intro _ J B c0 _ _ _ hn _; exact absurd rfl hn
    | succ k ih =>
      intro hk J B c0 hf h hlen hn hRk
      obtain ⟨hz, hw, ho8⟩ := rP_ok h
      have hBL := hz.2.2.2.1
      have hskL : sk bs L B ≤ L := sp_l hBL
      have hskg : B ≤ sk bs L B := sp_g
      have again : ∀ (K : zI) (x c : Int32), (∃ j, j < 7 ∧ x = nI (2 + j) ∧ c = nI (2000 + j)) → sk bs L B < L → pL bs L (k + 1) 1 o B = (pbind (pL bs L k 2 o (sk bs L B + 1)) fun c1 A => pbind (pL bs L k 1 o A) fun c' A => .inr (c1 ++ [c] ++ c', A)) → ft J K → rz K bs L (sk bs L B + 1) none → zJ l Xi mX13_sum d 0 0 45 [some (.ref 74), some (.int x)] [] (K, g) P := by
        intro K x c hxc hlt he hfK hzK
        have hn1 : pL bs L k 2 o (sk bs L B + 1) ≠ .inl (0, 0) := fun z => hn (by rw [he, z]; rfl)
        have hKL : lR K bs L o (.inr (c0, sk bs L B + 1)) := rP_mk hzK ⟨rLw_ft hw hfK, (hfK.2 8 (by decide) (by decide) (by decide)).trans ho8⟩
        rw [he] at hRk
        refine zJ_aload_n dX13_sum_45 rfl ?_
        refine zP_ecallVv [] _ lv_X13_230 (hU k (by omega) o (d - 1) K bs L (sk bs L B + 1) c0 ho (by omega) hL hKL (by omega) hn1) (zSt_ob hs 74 13 rfl) rfl (by omega) (Nat.le_of_ble_eq_true rfl) rfl dX13_sum_46 (fun J1 h1 => ?_)
        refine zJ_aload_n dX13_sum_49 rfl ?_
        refine zJ_iload_n dX13_sum_50 rfl ?_
        refine zJ_iconst (v := nI 0) dX13_sum_51 rfl ?_
        refine zP_ecallVv [_, _] _ lv_X13_236 (m_notesL (c := c) (d := d - 1) hl (by omega) hs h1.2 (fun q hq => by obtain ⟨j, hj, hx, hc⟩ := hxc; exact Or.inr (Or.inr ⟨j, hj, hx, hc⟩)) (fun cs1 a1 z => by obtain ⟨c1, a2, z1, z2⟩ := pbind_ok z; cases z2; have p1 := pL_ok z1 (by omega); rw [List.length_append]; omega)) (zSt_ob hs 74 13 rfl) rfl (by omega) (Nat.le_of_ble_eq_true rfl) rfl dX13_sum_52 (fun J2 h2 => ?_)
        refine zJ_goto 4 dX13_sum_55 (by decide) ?_
        obtain ⟨f2, p2⟩ := h2
        have hfJ : fl3 I J2 := fl3_trans (fl3_trans (fl3_trans hf (fl3_ft hfK)) h1.1) f2
        cases hc1 : pL bs L k 2 o (sk bs L B + 1) with
        | inl q =>
          rw [hc1] at p2 hRk
          have hRq : R = .inl q := hRk.symm
          rw [hP, hRq]
          refine zJ_aload_n dX13_sum_4 rfl ?_
          refine zP_geti lf_X13_123 (zSt_ob hs 74 13 rfl) rfl dX13_sum_5 ?_
          refine zJ_if_ne 58 dX13_sum_8 (by decide) (fun _ => ?_) (fun c8 => absurd c8 (rP_isE (q := q) p2))
          refine zJ_vret rfl dX13_sum_58 ?_
          exact ⟨rfl, J2, rfl, hfJ, rP_chg (q := q) p2⟩
        | inr q =>
          obtain ⟨c1, A1⟩ := q
          have p1 := pL_ok hc1 (by omega)
          rw [hc1] at p2 hRk
          simp only [pbind] at p2
          have hn2 : pL bs L k 1 o A1 ≠ .inl (0, 0) := fun z => hn (by rw [he, hc1, pbind_inr, z]; rfl)
          refine zJ_back (zle_r (zle_n zle_0)) rfl (ih (by omega) J2 A1 (c0 ++ c1 ++ [c]) hfJ p2 (by rw [List.length_append, List.length_append, List.length_singleton]; omega) hn2 ?_)
          rw [← hRk]
          simp only [pbind_inr, pbind_assoc, List.append_assoc]
      have he : pL bs L (k + 1) 1 o B = (if hitB bs L (sk bs L B) 43 then pbind (pL bs L k 2 o (sk bs L B + 1)) fun c A => pbind (pL bs L k 1 o A) fun c' A => .inr (c ++ [nI 2000] ++ c', A) else (if hitB bs L (sk bs L B) 45 then pbind (pL bs L k 2 o (sk bs L B + 1)) fun c A => pbind (pL bs L k 1 o A) fun c' A => .inr (c ++ [nI 2001] ++ c', A) else (.inr ([], sk bs L B)))) := rfl
      cases g0 : hitB bs L (sk bs L B) 43 with
      | true =>
        rw [g0] at he
        simp only [Bool.false_eq_true, if_false, if_true] at he
        refine zJ_aload_n dX13_sum_4 rfl ?_
        refine zP_geti lf_X13_123 (zSt_ob hs 74 13 rfl) rfl dX13_sum_5 ?_
        refine zJ_if_ne 58 dX13_sum_8 (by decide) (fun c8 => absurd hz.2.2.2.2.1 c8) (fun _ => ?_)
        refine zJ_aload_n dX13_sum_11 rfl ?_
        refine zJ_bipush (v := nI 43) dX13_sum_12 rfl ?_
        refine zP_ecallVi [_] _ lv_X13_233 (m_takesSign (d := d - 1) hl (by omega) hs hz (by omega)) (zSt_ob hs 74 13 rfl) rfl (by omega) (Nat.le_of_ble_eq_true rfl) rfl dX13_sum_14 (fun v0 J0 h0 => ?_)
        obtain ⟨rfl, f0, z0⟩ := h0
        rw [g0] at z0
        rw [g0]
        rw [if_pos rfl] at z0
        refine zJ_if_eq 24 dX13_sum_17 (by decide) (fun c17 => absurd c17 (by decide)) (fun _ => ?_)
        refine zJ_iconst (v := nI 2) dX13_sum_20 rfl ?_
        refine zJ_goto 38 dX13_sum_21 (by decide) ?_
        refine zJ_istore_m 1 dX13_sum_38 rfl (Nat.le_of_ble_eq_true rfl) (by decide) ?_
        refine zJ_iload_n dX13_sum_39 rfl ?_
        refine zJ_iconst (v := -1) dX13_sum_40 rfl ?_
        refine zJ_icmp_ne 45 dX13_sum_41 (by decide) (fun _ => ?_) (fun c41 => absurd c41 (by decide))
        exact again J0 (nI 2) (nI 2000) ⟨0, by decide, rfl, rfl⟩ (hit_lt g0) he f0 z0
      | false =>
        cases g1 : hitB bs L (sk bs L B) 45 with
        | true =>
          rw [g0, g1] at he
          simp only [Bool.false_eq_true, if_false, if_true] at he
          refine zJ_aload_n dX13_sum_4 rfl ?_
          refine zP_geti lf_X13_123 (zSt_ob hs 74 13 rfl) rfl dX13_sum_5 ?_
          refine zJ_if_ne 58 dX13_sum_8 (by decide) (fun c8 => absurd hz.2.2.2.2.1 c8) (fun _ => ?_)
          refine zJ_aload_n dX13_sum_11 rfl ?_
          refine zJ_bipush (v := nI 43) dX13_sum_12 rfl ?_
          refine zP_ecallVi [_] _ lv_X13_233 (m_takesSign (d := d - 1) hl (by omega) hs hz (by omega)) (zSt_ob hs 74 13 rfl) rfl (by omega) (Nat.le_of_ble_eq_true rfl) rfl dX13_sum_14 (fun v0 J0 h0 => ?_)
          obtain ⟨rfl, f0, z0⟩ := h0
          rw [g0] at z0
          rw [g0]
          rw [if_neg (by decide)] at z0
          refine zJ_if_eq 24 dX13_sum_17 (by decide) (fun _ => ?_) (fun c17 => absurd rfl c17)
          refine zJ_aload_n dX13_sum_24 rfl ?_
          refine zJ_bipush (v := nI 45) dX13_sum_25 rfl ?_
          refine zP_ecallVi [_] _ lv_X13_233 (m_takesSign (d := d - 1) hl (by omega) hs z0 (by omega)) (zSt_ob hs 74 13 rfl) rfl (by omega) (Nat.le_of_ble_eq_true rfl) rfl dX13_sum_27 (fun v1 J1 h1 => ?_)
          obtain ⟨rfl, f1, z1⟩ := h1
          rw [sk_sk, g1] at z1
          rw [sk_sk, g1]
          rw [if_pos rfl] at z1
          refine zJ_if_eq 37 dX13_sum_30 (by decide) (fun c30 => absurd c30 (by decide)) (fun _ => ?_)
          refine zJ_iconst (v := nI 3) dX13_sum_33 rfl ?_
          refine zJ_goto 38 dX13_sum_34 (by decide) ?_
          refine zJ_istore_m 1 dX13_sum_38 rfl (Nat.le_of_ble_eq_true rfl) (by decide) ?_
          refine zJ_iload_n dX13_sum_39 rfl ?_
          refine zJ_iconst (v := -1) dX13_sum_40 rfl ?_
          refine zJ_icmp_ne 45 dX13_sum_41 (by decide) (fun _ => ?_) (fun c41 => absurd c41 (by decide))
          exact again J1 (nI 3) (nI 2001) ⟨1, by decide, rfl, rfl⟩ (hit_lt g1) he (ft_trans f0 f1) z1
        | false =>
          rw [g0, g1] at he
          simp only [Bool.false_eq_true, if_false] at he
          refine zJ_aload_n dX13_sum_4 rfl ?_
          refine zP_geti lf_X13_123 (zSt_ob hs 74 13 rfl) rfl dX13_sum_5 ?_
          refine zJ_if_ne 58 dX13_sum_8 (by decide) (fun c8 => absurd hz.2.2.2.2.1 c8) (fun _ => ?_)
          refine zJ_aload_n dX13_sum_11 rfl ?_
          refine zJ_bipush (v := nI 43) dX13_sum_12 rfl ?_
          refine zP_ecallVi [_] _ lv_X13_233 (m_takesSign (d := d - 1) hl (by omega) hs hz (by omega)) (zSt_ob hs 74 13 rfl) rfl (by omega) (Nat.le_of_ble_eq_true rfl) rfl dX13_sum_14 (fun v0 J0 h0 => ?_)
          obtain ⟨rfl, f0, z0⟩ := h0
          rw [g0] at z0
          rw [g0]
          rw [if_neg (by decide)] at z0
          refine zJ_if_eq 24 dX13_sum_17 (by decide) (fun _ => ?_) (fun c17 => absurd rfl c17)
          refine zJ_aload_n dX13_sum_24 rfl ?_
          refine zJ_bipush (v := nI 45) dX13_sum_25 rfl ?_
          refine zP_ecallVi [_] _ lv_X13_233 (m_takesSign (d := d - 1) hl (by omega) hs z0 (by omega)) (zSt_ob hs 74 13 rfl) rfl (by omega) (Nat.le_of_ble_eq_true rfl) rfl dX13_sum_27 (fun v1 J1 h1 => ?_)
          obtain ⟨rfl, f1, z1⟩ := h1
          rw [sk_sk, g1] at z1
          rw [sk_sk, g1]
          rw [if_neg (by decide)] at z1
          refine zJ_if_eq 37 dX13_sum_30 (by decide) (fun _ => ?_) (fun c30 => absurd rfl c30)
          refine zJ_iconst (v := -1) dX13_sum_37 rfl ?_
          refine zJ_istore_m 1 dX13_sum_38 rfl (Nat.le_of_ble_eq_true rfl) (by decide) ?_
          refine zJ_iload_n dX13_sum_39 rfl ?_
          refine zJ_iconst (v := -1) dX13_sum_40 rfl ?_
          refine zJ_icmp_ne 45 dX13_sum_41 (by decide) (fun c41 => absurd rfl c41) (fun _ => ?_)
          refine zJ_vret rfl dX13_sum_44 ?_
          have hRk2 : R = .inr (c0, sk bs L B) := by rw [← hRk, he, pbind_inr, List.append_nil]
          rw [hP, hRk2]
          exact ⟨rfl, J1, rfl, fl3_trans hf (fl3_ft (ft_trans f0 f1)), rP_mk z1 ⟨rLw_ft hw (ft_trans f0 f1), ((ft_trans f0 f1).2 8 (by decide) (by decide) (by decide)).trans ho8⟩⟩
  rw [← hP]
  refine zJ_aload_n dX13_sum_0 rfl ?_
  refine zP_ecallVv [] _ lv_X13_230 (hU f (Nat.le_refl _) o (d - 1) I bs L A cs ho (by omega) hL h hlen hne1) (zSt_ob hs 74 13 rfl) rfl (by omega) (Nat.le_of_ble_eq_true rfl) rfl dX13_sum_1 (fun J1 h1 => ?_)
  obtain ⟨f1, p1⟩ := h1
  cases hc1 : pL bs L f 2 o A with
  | inl q =>
    rw [hc1] at p1 hR1
    have hRq : R = .inl q := hR1
    rw [hP, hRq]
    refine zJ_aload_n dX13_sum_4 rfl ?_
    refine zP_geti lf_X13_123 (zSt_ob hs 74 13 rfl) rfl dX13_sum_5 ?_
    refine zJ_if_ne 58 dX13_sum_8 (by decide) (fun _ => ?_) (fun c8 => absurd c8 (rP_isE (q := q) p1))
    refine zJ_vret rfl dX13_sum_58 ?_
    exact ⟨rfl, J1, rfl, f1, rP_chg (q := q) p1⟩
  | inr q =>
    obtain ⟨c1, A1⟩ := q
    have pk := pL_ok hc1 (rP_ok h).1.2.2.2.1
    rw [hc1] at p1 hR1
    refine zJ_back (zle_r (zle_n zle_0)) rfl (loop f (Nat.le_refl _) J1 A1 (cs ++ c1) f1 p1 (by rw [List.length_append]; omega) (hne2 c1 A1 hc1) ?_)
    rw [hR1]
    simp only [pbind_inr, List.append_assoc]
set_option maxHeartbeats 1000000 in
theorem cm_product (hl : l.stackTraces = false) (hs : zSt g) {f : Nat} (hU : ∀ k, k ≤ f → cR l Xi g mX13_one 8 4 k) : cR l Xi g mX13_product 9 2 (f + 1) := by
  intro o d I bs L A cs ho hd hL h hlen hne
  refine zC_of hl rfl rfl rfl (Nat.le_of_ble_eq_true rfl) (zav_r (zSt_ob hs 74 13 rfl).1 zav_0) ?_
  obtain ⟨R, hR⟩ : ∃ R, (pbind (pL bs L (f + 1) 2 o A) fun c A => (.inr (cs ++ c, A) : PR (List Int32))) = R := ⟨_, rfl⟩
  rw [hR]
  obtain ⟨P, hP⟩ : ∃ P : zR → zH → Prop, P = (fun r' h' => r' = .inl none ∧ ∃ J, h' = (J, g) ∧ fl3 I J ∧ lR J bs L o R) := ⟨_, rfl⟩
  have hR1 : R = pbind (pL bs L f 4 o A) fun c A => pbind (pL bs L f 3 o A) fun c' A => .inr (cs ++ (c ++ c'), A) := by
    rw [← hR]
    have e : pL bs L (f + 1) 2 o A = pbind (pL bs L f 4 o A) fun c A => pbind (pL bs L f 3 o A) fun c' A => .inr (c ++ c', A) := rfl
    rw [e]
    simp only [pbind_assoc, pbind_inr]
  have hne1 : pL bs L f 4 o A ≠ .inl (0, 0) := fun z => hne (by
    have e : pL bs L (f + 1) 2 o A = pbind (pL bs L f 4 o A) fun c A => pbind (pL bs L f 3 o A) fun c' A => .inr (c ++ c', A) := rfl
    rw [e, z]; rfl)
  have hne2 : ∀ c a, pL bs L f 4 o A = .inr (c, a) → pL bs L f 3 o a ≠ .inl (0, 0) := fun c a hc z => hne (by
    have e : pL bs L (f + 1) 2 o A = pbind (pL bs L f 4 o A) fun c A => pbind (pL bs L f 3 o A) fun c' A => .inr (c ++ c', A) := rfl
    rw [e, hc, pbind_inr, z]; rfl)
  have loop : ∀ k, k ≤ f → ∀ (J : zI) (B : Nat) (c0 : List Int32), fl3 I J → lR J bs L o (.inr (c0, B)) → c0.length ≤ B → pL bs L k 3 o B ≠ .inl (0, 0) → (pbind (pL bs L k 3 o B) fun c A => .inr (c0 ++ c, A)) = R → zJ l Xi mX13_product d 0 0 4 [some (.ref 74), none] [] (J, g) P := by
    intro k
    induction k with
    | zero => intro _ J B c0 _ _ _ hn _; exact absurd rfl hn
    | succ k ih =>
      intro hk J B c0 hf h hlen hn hRk
      obtain ⟨hz, hw, ho8⟩ := rP_ok h
      have hBL := hz.2.2.2.1
      have hskL : sk bs L B ≤ L := sp_l hBL
      have hskg : B ≤ sk bs L B := sp_g
      have again : ∀ (K : zI) (x c : Int32), (∃ j, j < 7 ∧ x = nI (2 + j) ∧ c = nI (2000 + j)) → sk bs L B < L → pL bs L (k + 1) 3 o B = (pbind (pL bs L k 4 o (sk bs L B + 1)) fun c1 A => pbind (pL bs L k 3 o A) fun c' A => .inr (c1 ++ [c] ++ c', A)) → ft J K → rz K bs L (sk bs L B + 1) none → zJ l Xi mX13_product d 0 0 59 [some (.ref 74), some (.int x)] [] (K, g) P := by
        intro K x c hxc hlt he hfK hzK
        have hn1 : pL bs L k 4 o (sk bs L B + 1) ≠ .inl (0, 0) := fun z => hn (by rw [he, z]; rfl)
        have hKL : lR K bs L o (.inr (c0, sk bs L B + 1)) := rP_mk hzK ⟨rLw_ft hw hfK, (hfK.2 8 (by decide) (by decide) (by decide)).trans ho8⟩
        rw [he] at hRk
        refine zJ_aload_n dX13_product_59 rfl ?_
        refine zP_ecallVv [] _ lv_X13_239 (hU k (by omega) o (d - 1) K bs L (sk bs L B + 1) c0 ho (by omega) hL hKL (by omega) hn1) (zSt_ob hs 74 13 rfl) rfl (by omega) (Nat.le_of_ble_eq_true rfl) rfl dX13_product_60 (fun J1 h1 => ?_)
        refine zJ_aload_n dX13_product_63 rfl ?_
        refine zJ_iload_n dX13_product_64 rfl ?_
        refine zJ_iconst (v := nI 0) dX13_product_65 rfl ?_
        refine zP_ecallVv [_, _] _ lv_X13_236 (m_notesL (c := c) (d := d - 1) hl (by omega) hs h1.2 (fun q hq => by obtain ⟨j, hj, hx, hc⟩ := hxc; exact Or.inr (Or.inr ⟨j, hj, hx, hc⟩)) (fun cs1 a1 z => by obtain ⟨c1, a2, z1, z2⟩ := pbind_ok z; cases z2; have p1 := pL_ok z1 (by omega); rw [List.length_append]; omega)) (zSt_ob hs 74 13 rfl) rfl (by omega) (Nat.le_of_ble_eq_true rfl) rfl dX13_product_66 (fun J2 h2 => ?_)
        refine zJ_goto 4 dX13_product_69 (by decide) ?_
        obtain ⟨f2, p2⟩ := h2
        have hfJ : fl3 I J2 := fl3_trans (fl3_trans (fl3_trans hf (fl3_ft hfK)) h1.1) f2
        cases hc1 : pL bs L k 4 o (sk bs L B + 1) with
        | inl q =>
          rw [hc1] at p2 hRk
          have hRq : R = .inl q := hRk.symm
          rw [hP, hRq]
          refine zJ_aload_n dX13_product_4 rfl ?_
          refine zP_geti lf_X13_123 (zSt_ob hs 74 13 rfl) rfl dX13_product_5 ?_
          refine zJ_if_ne 72 dX13_product_8 (by decide) (fun _ => ?_) (fun c8 => absurd c8 (rP_isE (q := q) p2))
          refine zJ_vret rfl dX13_product_72 ?_
          exact ⟨rfl, J2, rfl, hfJ, rP_chg (q := q) p2⟩
        | inr q =>
          obtain ⟨c1, A1⟩ := q
          have p1 := pL_ok hc1 (by omega)
          rw [hc1] at p2 hRk
          simp only [pbind] at p2
          have hn2 : pL bs L k 3 o A1 ≠ .inl (0, 0) := fun z => hn (by rw [he, hc1, pbind_inr, z]; rfl)
          refine zJ_back (zle_r (zle_n zle_0)) rfl (ih (by omega) J2 A1 (c0 ++ c1 ++ [c]) hfJ p2 (by rw [List.length_append, List.length_append, List.length_singleton]; omega) hn2 ?_)
          rw [← hRk]
          simp only [pbind_inr, pbind_assoc, List.append_assoc]
      have he : pL bs L (k + 1) 3 o B = (if hitB bs L (sk bs L B) 42 then pbind (pL bs L k 4 o (sk bs L B + 1)) fun c A => pbind (pL bs L k 3 o A) fun c' A => .inr (c ++ [nI 2002] ++ c', A) else (if hitB bs L (sk bs L B) 47 then pbind (pL bs L k 4 o (sk bs L B + 1)) fun c A => pbind (pL bs L k 3 o A) fun c' A => .inr (c ++ [nI 2003] ++ c', A) else (if hitB bs L (sk bs L B) 37 then pbind (pL bs L k 4 o (sk bs L B + 1)) fun c A => pbind (pL bs L k 3 o A) fun c' A => .inr (c ++ [nI 2004] ++ c', A) else (.inr ([], sk bs L B))))) := rfl
      cases g0 : hitB bs L (sk bs L B) 42 with
      | true =>
        rw [g0] at he
        simp only [Bool.false_eq_true, if_false, if_true] at he
        refine zJ_aload_n dX13_product_4 rfl ?_
        refine zP_geti lf_X13_123 (zSt_ob hs 74 13 rfl) rfl dX13_product_5 ?_
        refine zJ_if_ne 72 dX13_product_8 (by decide) (fun c8 => absurd hz.2.2.2.2.1 c8) (fun _ => ?_)
        refine zJ_aload_n dX13_product_11 rfl ?_
        refine zJ_bipush (v := nI 42) dX13_product_12 rfl ?_
        refine zP_ecallVi [_] _ lv_X13_233 (m_takesSign (d := d - 1) hl (by omega) hs hz (by omega)) (zSt_ob hs 74 13 rfl) rfl (by omega) (Nat.le_of_ble_eq_true rfl) rfl dX13_product_14 (fun v0 J0 h0 => ?_)
        obtain ⟨rfl, f0, z0⟩ := h0
        rw [g0] at z0
        rw [g0]
        rw [if_pos rfl] at z0
        refine zJ_if_eq 24 dX13_product_17 (by decide) (fun c17 => absurd c17 (by decide)) (fun _ => ?_)
        refine zJ_iconst (v := nI 4) dX13_product_20 rfl ?_
        refine zJ_goto 52 dX13_product_21 (by decide) ?_
        refine zJ_istore_m 1 dX13_product_52 rfl (Nat.le_of_ble_eq_true rfl) (by decide) ?_
        refine zJ_iload_n dX13_product_53 rfl ?_
        refine zJ_iconst (v := -1) dX13_product_54 rfl ?_
        refine zJ_icmp_ne 59 dX13_product_55 (by decide) (fun _ => ?_) (fun c55 => absurd c55 (by decide))
        exact again J0 (nI 4) (nI 2002) ⟨2, by decide, rfl, rfl⟩ (hit_lt g0) he f0 z0
      | false =>
        cases g1 : hitB bs L (sk bs L B) 47 with
        | true =>
          rw [g0, g1] at he
          simp only [Bool.false_eq_true, if_false, if_true] at he
          refine zJ_aload_n dX13_product_4 rfl ?_
          refine zP_geti lf_X13_123 (zSt_ob hs 74 13 rfl) rfl dX13_product_5 ?_
          refine zJ_if_ne 72 dX13_product_8 (by decide) (fun c8 => absurd hz.2.2.2.2.1 c8) (fun _ => ?_)
          refine zJ_aload_n dX13_product_11 rfl ?_
          refine zJ_bipush (v := nI 42) dX13_product_12 rfl ?_
          refine zP_ecallVi [_] _ lv_X13_233 (m_takesSign (d := d - 1) hl (by omega) hs hz (by omega)) (zSt_ob hs 74 13 rfl) rfl (by omega) (Nat.le_of_ble_eq_true rfl) rfl dX13_product_14 (fun v0 J0 h0 => ?_)
          obtain ⟨rfl, f0, z0⟩ := h0
          rw [g0] at z0
          rw [g0]
          rw [if_neg (by decide)] at z0
          refine zJ_if_eq 24 dX13_product_17 (by decide) (fun _ => ?_) (fun c17 => absurd rfl c17)
          refine zJ_aload_n dX13_product_24 rfl ?_
          refine zJ_bipush (v := nI 47) dX13_product_25 rfl ?_
          refine zP_ecallVi [_] _ lv_X13_233 (m_takesSign (d := d - 1) hl (by omega) hs z0 (by omega)) (zSt_ob hs 74 13 rfl) rfl (by omega) (Nat.le_of_ble_eq_true rfl) rfl dX13_product_27 (fun v1 J1 h1 => ?_)
          obtain ⟨rfl, f1, z1⟩ := h1
          rw [sk_sk, g1] at z1
          rw [sk_sk, g1]
          rw [if_pos rfl] at z1
          refine zJ_if_eq 37 dX13_product_30 (by decide) (fun c30 => absurd c30 (by decide)) (fun _ => ?_)
          refine zJ_iconst (v := nI 5) dX13_product_33 rfl ?_
          refine zJ_goto 52 dX13_product_34 (by decide) ?_
          refine zJ_istore_m 1 dX13_product_52 rfl (Nat.le_of_ble_eq_true rfl) (by decide) ?_
          refine zJ_iload_n dX13_product_53 rfl ?_
          refine zJ_iconst (v := -1) dX13_product_54 rfl ?_
          refine zJ_icmp_ne 59 dX13_product_55 (by decide) (fun _ => ?_) (fun c55 => absurd c55 (by decide))
          exact again J1 (nI 5) (nI 2003) ⟨3, by decide, rfl, rfl⟩ (hit_lt g1) he (ft_trans f0 f1) z1
        | false =>
          cases g2 : hitB bs L (sk bs L B) 37 with
          | true =>
            rw [g0, g1, g2] at he
            simp only [Bool.false_eq_true, if_false, if_true] at he
            refine zJ_aload_n dX13_product_4 rfl ?_
            refine zP_geti lf_X13_123 (zSt_ob hs 74 13 rfl) rfl dX13_product_5 ?_
            refine zJ_if_ne 72 dX13_product_8 (by decide) (fun c8 => absurd hz.2.2.2.2.1 c8) (fun _ => ?_)
            refine zJ_aload_n dX13_product_11 rfl ?_
            refine zJ_bipush (v := nI 42) dX13_product_12 rfl ?_
            refine zP_ecallVi [_] _ lv_X13_233 (m_takesSign (d := d - 1) hl (by omega) hs hz (by omega)) (zSt_ob hs 74 13 rfl) rfl (by omega) (Nat.le_of_ble_eq_true rfl) rfl dX13_product_14 (fun v0 J0 h0 => ?_)
            obtain ⟨rfl, f0, z0⟩ := h0
            rw [g0] at z0
            rw [g0]
            rw [if_neg (by decide)] at z0
            refine zJ_if_eq 24 dX13_product_17 (by decide) (fun _ => ?_) (fun c17 => absurd rfl c17)
            refine zJ_aload_n dX13_product_24 rfl ?_
            refine zJ_bipush (v := nI 47) dX13_product_25 rfl ?_
            refine zP_ecallVi [_] _ lv_X13_233 (m_takesSign (d := d - 1) hl (by omega) hs z0 (by omega)) (zSt_ob hs 74 13 rfl) rfl (by omega) (Nat.le_of_ble_eq_true rfl) rfl dX13_product_27 (fun v1 J1 h1 => ?_)
            obtain ⟨rfl, f1, z1⟩ := h1
            rw [sk_sk, g1] at z1
            rw [sk_sk, g1]
            rw [if_neg (by decide)] at z1
            refine zJ_if_eq 37 dX13_product_30 (by decide) (fun _ => ?_) (fun c30 => absurd rfl c30)
            refine zJ_aload_n dX13_product_37 rfl ?_
            refine zJ_bipush (v := nI 37) dX13_product_38 rfl ?_
            refine zP_ecallVi [_] _ lv_X13_233 (m_takesSign (d := d - 1) hl (by omega) hs z1 (by omega)) (zSt_ob hs 74 13 rfl) rfl (by omega) (Nat.le_of_ble_eq_true rfl) rfl dX13_product_40 (fun v2 J2 h2 => ?_)
            obtain ⟨rfl, f2, z2⟩ := h2
            rw [sk_sk, g2] at z2
            rw [sk_sk, g2]
            rw [if_pos rfl] at z2
            refine zJ_if_eq 51 dX13_product_43 (by decide) (fun c43 => absurd c43 (by decide)) (fun _ => ?_)
            refine zJ_bipush (v := nI 6) dX13_product_46 rfl ?_
            refine zJ_goto 52 dX13_product_48 (by decide) ?_
            refine zJ_istore_m 1 dX13_product_52 rfl (Nat.le_of_ble_eq_true rfl) (by decide) ?_
            refine zJ_iload_n dX13_product_53 rfl ?_
            refine zJ_iconst (v := -1) dX13_product_54 rfl ?_
            refine zJ_icmp_ne 59 dX13_product_55 (by decide) (fun _ => ?_) (fun c55 => absurd c55 (by decide))
            exact again J2 (nI 6) (nI 2004) ⟨4, by decide, rfl, rfl⟩ (hit_lt g2) he (ft_trans (ft_trans f0 f1) f2) z2
          | false =>
            rw [g0, g1, g2] at he
            simp only [Bool.false_eq_true, if_false] at he
            refine zJ_aload_n dX13_product_4 rfl ?_
            refine zP_geti lf_X13_123 (zSt_ob hs 74 13 rfl) rfl dX13_product_5 ?_
            refine zJ_if_ne 72 dX13_product_8 (by decide) (fun c8 => absurd hz.2.2.2.2.1 c8) (fun _ => ?_)
            refine zJ_aload_n dX13_product_11 rfl ?_
            refine zJ_bipush (v := nI 42) dX13_product_12 rfl ?_
            refine zP_ecallVi [_] _ lv_X13_233 (m_takesSign (d := d - 1) hl (by omega) hs hz (by omega)) (zSt_ob hs 74 13 rfl) rfl (by omega) (Nat.le_of_ble_eq_true rfl) rfl dX13_product_14 (fun v0 J0 h0 => ?_)
            obtain ⟨rfl, f0, z0⟩ := h0
            rw [g0] at z0
            rw [g0]
            rw [if_neg (by decide)] at z0
            refine zJ_if_eq 24 dX13_product_17 (by decide) (fun _ => ?_) (fun c17 => absurd rfl c17)
            refine zJ_aload_n dX13_product_24 rfl ?_
            refine zJ_bipush (v := nI 47) dX13_product_25 rfl ?_
            refine zP_ecallVi [_] _ lv_X13_233 (m_takesSign (d := d - 1) hl (by omega) hs z0 (by omega)) (zSt_ob hs 74 13 rfl) rfl (by omega) (Nat.le_of_ble_eq_true rfl) rfl dX13_product_27 (fun v1 J1 h1 => ?_)
            obtain ⟨rfl, f1, z1⟩ := h1
            rw [sk_sk, g1] at z1
            rw [sk_sk, g1]
            rw [if_neg (by decide)] at z1
            refine zJ_if_eq 37 dX13_product_30 (by decide) (fun _ => ?_) (fun c30 => absurd rfl c30)
            refine zJ_aload_n dX13_product_37 rfl ?_
            refine zJ_bipush (v := nI 37) dX13_product_38 rfl ?_
            refine zP_ecallVi [_] _ lv_X13_233 (m_takesSign (d := d - 1) hl (by omega) hs z1 (by omega)) (zSt_ob hs 74 13 rfl) rfl (by omega) (Nat.le_of_ble_eq_true rfl) rfl dX13_product_40 (fun v2 J2 h2 => ?_)
            obtain ⟨rfl, f2, z2⟩ := h2
            rw [sk_sk, g2] at z2
            rw [sk_sk, g2]
            rw [if_neg (by decide)] at z2
            refine zJ_if_eq 51 dX13_product_43 (by decide) (fun _ => ?_) (fun c43 => absurd rfl c43)
            refine zJ_iconst (v := -1) dX13_product_51 rfl ?_
            refine zJ_istore_m 1 dX13_product_52 rfl (Nat.le_of_ble_eq_true rfl) (by decide) ?_
            refine zJ_iload_n dX13_product_53 rfl ?_
            refine zJ_iconst (v := -1) dX13_product_54 rfl ?_
            refine zJ_icmp_ne 59 dX13_product_55 (by decide) (fun c55 => absurd rfl c55) (fun _ => ?_)
            refine zJ_vret rfl dX13_product_58 ?_
            have hRk2 : R = .inr (c0, sk bs L B) := by rw [← hRk, he, pbind_inr, List.append_nil]
            rw [hP, hRk2]
            exact ⟨rfl, J2, rfl, fl3_trans hf (fl3_ft (ft_trans (ft_trans f0 f1) f2)), rP_mk z2 ⟨rLw_ft hw (ft_trans (ft_trans f0 f1) f2), ((ft_trans (ft_trans f0 f1) f2).2 8 (by decide) (by decide) (by decide)).trans ho8⟩⟩
  rw [← hP]
  refine zJ_aload_n dX13_product_0 rfl ?_
  refine zP_ecallVv [] _ lv_X13_239 (hU f (Nat.le_refl _) o (d - 1) I bs L A cs ho (by omega) hL h hlen hne1) (zSt_ob hs 74 13 rfl) rfl (by omega) (Nat.le_of_ble_eq_true rfl) rfl dX13_product_1 (fun J1 h1 => ?_)
  obtain ⟨f1, p1⟩ := h1
  cases hc1 : pL bs L f 4 o A with
  | inl q =>
    rw [hc1] at p1 hR1
    have hRq : R = .inl q := hR1
    rw [hP, hRq]
    refine zJ_aload_n dX13_product_4 rfl ?_
    refine zP_geti lf_X13_123 (zSt_ob hs 74 13 rfl) rfl dX13_product_5 ?_
    refine zJ_if_ne 72 dX13_product_8 (by decide) (fun _ => ?_) (fun c8 => absurd c8 (rP_isE (q := q) p1))
    refine zJ_vret rfl dX13_product_72 ?_
    exact ⟨rfl, J1, rfl, f1, rP_chg (q := q) p1⟩
  | inr q =>
    obtain ⟨c1, A1⟩ := q
    have pk := pL_ok hc1 (rP_ok h).1.2.2.2.1
    rw [hc1] at p1 hR1
    refine zJ_back (zle_r (zle_n zle_0)) rfl (loop f (Nat.le_refl _) J1 A1 (cs ++ c1) f1 p1 (by rw [List.length_append]; omega) (hne2 c1 A1 hc1) ?_)
    rw [hR1]
    simp only [pbind_inr, List.append_assoc]
end ZRefAN
