/-! ===== constructors ===== -/
section ZCtor
variable {l : Launch} {Xi : zXi} {d : Nat} {I : zI} {g : zG}
theorem i_X10_1 (hl : l.stackTraces = false) (hd : 2 ≤ d) {uc : List (Nat × List Nat)} (G : pG 2 ((1, []) :: uc) g) : zC l Xi mX10_init d 1 600 [.ref 1] (I, g) (fun r h' => r = .inl none ∧ ∃ J g', h' = (J, g') ∧ pG 3 uc g' ∧ (∀ k, k < 1 ∨ 3 ≤ k → J k = I k) ∧ (J 1 6 = -1 ∧ (∀ k, k ≠ 6 → J 1 k = I 1 k) ∧ J 2 = fun _ => 0)) := by
  refine zC_of hl rfl rfl rfl (Nat.le_of_ble_eq_true rfl) (zav_r (show _ < g.1 by rw [G.1]; omega) zav_0) ?_
  refine zJ_aload_n dX10_init_0 rfl ?_
  refine zJ_objInit lo_X10_3 (Nat.le_of_ble_eq_true rfl) (by omega) dX10_init_1 ?_
  refine zJ_aload_n dX10_init_4 rfl ?_
  refine zJ_sipush (v := nI 600) dX10_init_5 rfl ?_
  refine zN_arr (kc := 0) (ks := 0) (N := 600) G rfl (fun _ => rfl) (by omega) rfl (by omega) dX10_init_8 (fun I1 g1 G1 e1 f1 => ?_)
  refine zN_put G1 lr_X10_9 rfl rfl (by omega) (by omega) rfl rfl ⟨by omega, by omega, by omega⟩ dX10_init_10 (fun g2 G2 => ?_)
  refine zJ_aload_n dX10_init_13 rfl ?_
  refine zJ_iconst (v := -1) dX10_init_14 rfl ?_
  refine zP_puti lf_X10_15 (pG_ob G2 (by omega) rfl) rfl dX10_init_15 ?_
  obtain ⟨I3, h3⟩ : ∃ J, zup I1 1 6 (-1) = J := ⟨_, rfl⟩
  rw [h3]
  have e3 : ∀ k, k ≠ 1 → I3 k = I1 k := fun k hk => by rw [← h3, zup_row hk]
  refine zJ_vret rfl dX10_init_18 ?_
  exact ⟨rfl, _, _, rfl, pG_fin G2 (fun j b h => (by decide +kernel : ∀ j, j < 1 → zJ0 1 j ≠ none → j ∈ [0]) j (getD_lt h) (by rw [h]; exact fun y => by cases y)), (fun k hk => by rw [e3 k (by omega), e1 k (by omega)]), ⟨by rw [← h3, zup_same, upd_at], (fun k hk => by rw [← h3, zup_same, upd_ne hk, e1 1 (by omega)]), by rw [e3 2 (by omega)]; exact f1⟩⟩
theorem i_X0_3 (hl : l.stackTraces = false) (hd : 4 ≤ d) {uc : List (Nat × List Nat)} (G : pG 4 ((3, []) :: uc) g) : zC l Xi mX0_init d 8 490 [.ref 3] (I, g) (fun r h' => r = .inl none ∧ ∃ J g', h' = (J, g') ∧ pG 12 uc g' ∧ (∀ k, k < 3 ∨ 12 ≤ k → J k = I k) ∧ cFin J 3 rb0) := by
  refine zC_of hl rfl rfl rfl (Nat.le_of_ble_eq_true rfl) (zav_r (show _ < g.1 by rw [G.1]; omega) zav_0) ?_
  refine zJ_aload_n dX0_init_0 rfl ?_
  refine zJ_objInit lo_X0_3 (Nat.le_of_ble_eq_true rfl) (by omega) dX0_init_1 ?_
  refine zJ_aload_n dX0_init_4 rfl ?_
  refine zJ_iconst (v := nI 4) dX0_init_5 rfl ?_
  refine zP_puti lf_X0_9 (pG_ob G (by omega) rfl) rfl dX0_init_6 ?_
  obtain ⟨I1, h1⟩ : ∃ J, zup I 3 0 (nI 4) = J := ⟨_, rfl⟩
  rw [h1]
  have e1 : ∀ k, k ≠ 3 → I1 k = I k := fun k hk => by rw [← h1, zup_row hk]
  refine zJ_aload_n dX0_init_9 rfl ?_
  refine zJ_iconst (v := nI 4) dX0_init_10 rfl ?_
  refine zP_puti lf_X0_15 (pG_ob G (by omega) rfl) rfl dX0_init_11 ?_
  obtain ⟨I2, h2⟩ : ∃ J, zup I1 3 1 (nI 4) = J := ⟨_, rfl⟩
  rw [h2]
  have e2 : ∀ k, k ≠ 3 → I2 k = I1 k := fun k hk => by rw [← h2, zup_row hk]
  refine zJ_aload_n dX0_init_14 rfl ?_
  refine zJ_iconst (v := nI 1) dX0_init_15 rfl ?_
  refine zP_puti lf_X0_18 (pG_ob G (by omega) rfl) rfl dX0_init_16 ?_
  obtain ⟨I3, h3⟩ : ∃ J, zup I2 3 3 (nI 1) = J := ⟨_, rfl⟩
  rw [h3]
  have e3 : ∀ k, k ≠ 3 → I3 k = I2 k := fun k hk => by rw [← h3, zup_row hk]
  refine zJ_aload_n dX0_init_19 rfl ?_
  refine zJ_bipush (v := nI 6) dX0_init_20 rfl ?_
  refine zN_arr (kc := 7) (ks := 484) (N := 6) G rfl (fun _ => rfl) (by omega) rfl (by omega) dX0_init_22 (fun I4 g4 G4 e4 f4 => ?_)
  refine zN_put G4 lr_X0_21 rfl rfl (by omega) (by omega) rfl rfl ⟨by omega, by omega, by omega⟩ dX0_init_24 (fun g5 G5 => ?_)
  refine zJ_aload_n dX0_init_27 rfl ?_
  refine zJ_bipush (v := nI 6) dX0_init_28 rfl ?_
  refine zN_arr (kc := 6) (ks := 478) (N := 6) G5 rfl (fun _ => rfl) (by omega) rfl (by omega) dX0_init_30 (fun I6 g6 G6 e6 f6 => ?_)
  refine zN_put G6 lr_X0_25 rfl rfl (by omega) (by omega) rfl rfl ⟨by omega, by omega, by omega⟩ dX0_init_32 (fun g7 G7 => ?_)
  refine zJ_aload_n dX0_init_35 rfl ?_
  refine zJ_bipush (v := nI 6) dX0_init_36 rfl ?_
  refine zN_arr (kc := 5) (ks := 472) (N := 6) G7 rfl (fun _ => rfl) (by omega) rfl (by omega) dX0_init_38 (fun I8 g8 G8 e8 f8 => ?_)
  refine zN_put G8 lr_X0_28 rfl rfl (by omega) (by omega) rfl rfl ⟨by omega, by omega, by omega⟩ dX0_init_40 (fun g9 G9 => ?_)
  refine zJ_aload_n dX0_init_43 rfl ?_
  refine zJ_bipush (v := nI 24) dX0_init_44 rfl ?_
  refine zN_arr (kc := 4) (ks := 448) (N := 24) G9 rfl (fun _ => rfl) (by omega) rfl (by omega) dX0_init_46 (fun I10 g10 G10 e10 f10 => ?_)
  refine zN_put G10 lr_X0_31 rfl rfl (by omega) (by omega) rfl rfl ⟨by omega, by omega, by omega⟩ dX0_init_48 (fun g11 G11 => ?_)
  refine zJ_aload_n dX0_init_51 rfl ?_
  refine zJ_bipush (v := nI 64) dX0_init_52 rfl ?_
  refine zN_arr (kc := 3) (ks := 384) (N := 64) G11 rfl (fun _ => rfl) (by omega) rfl (by omega) dX0_init_54 (fun I12 g12 G12 e12 f12 => ?_)
  refine zN_put G12 lr_X0_34 rfl rfl (by omega) (by omega) rfl rfl ⟨by omega, by omega, by omega⟩ dX0_init_56 (fun g13 G13 => ?_)
  refine zJ_aload_n dX0_init_59 rfl ?_
  refine zJ_bipush (v := nI 64) dX0_init_60 rfl ?_
  refine zN_arr (kc := 2) (ks := 320) (N := 64) G13 rfl (fun _ => rfl) (by omega) rfl (by omega) dX0_init_62 (fun I14 g14 G14 e14 f14 => ?_)
  refine zN_put G14 lr_X0_37 rfl rfl (by omega) (by omega) rfl rfl ⟨by omega, by omega, by omega⟩ dX0_init_64 (fun g15 G15 => ?_)
  refine zJ_aload_n dX0_init_67 rfl ?_
  refine zJ_bipush (v := nI 64) dX0_init_68 rfl ?_
  refine zN_arr (kc := 1) (ks := 256) (N := 64) G15 rfl (fun _ => rfl) (by omega) rfl (by omega) dX0_init_70 (fun I16 g16 G16 e16 f16 => ?_)
  refine zN_put G16 lr_X0_40 rfl rfl (by omega) (by omega) rfl rfl ⟨by omega, by omega, by omega⟩ dX0_init_72 (fun g17 G17 => ?_)
  refine zJ_aload_n dX0_init_75 rfl ?_
  refine zJ_sipush (v := nI 256) dX0_init_76 rfl ?_
  refine zN_arr (kc := 0) (ks := 0) (N := 256) G17 rfl (fun _ => rfl) (by omega) rfl (by omega) dX0_init_79 (fun I18 g18 G18 e18 f18 => ?_)
  refine zN_put G18 lr_X0_43 rfl rfl (by omega) (by omega) rfl rfl ⟨by omega, by omega, by omega⟩ dX0_init_81 (fun g19 G19 => ?_)
  refine zJ_aload_n dX0_init_84 rfl ?_
  have hK : zK g19 3 0 zLt_Board := by
    refine ⟨pG_ob G19 (by omega) rfl, fun k q hq => ?_⟩
    match k, hq with
    | 0, hq => cases hq; exact ⟨pG_rf G19 (b := 4) (by omega) rfl (Or.inr ⟨_, List.mem_cons_self, rfl, by decide⟩), pG_ar G19 (b := 4) (by omega) rfl⟩
    | 1, hq => cases hq; exact ⟨pG_rf G19 (b := 5) (by omega) rfl (Or.inr ⟨_, List.mem_cons_self, rfl, by decide⟩), pG_ar G19 (b := 5) (by omega) rfl⟩
    | 2, hq => cases hq; exact ⟨pG_rf G19 (b := 6) (by omega) rfl (Or.inr ⟨_, List.mem_cons_self, rfl, by decide⟩), pG_ar G19 (b := 6) (by omega) rfl⟩
    | 3, hq => cases hq; exact ⟨pG_rf G19 (b := 7) (by omega) rfl (Or.inr ⟨_, List.mem_cons_self, rfl, by decide⟩), pG_ar G19 (b := 7) (by omega) rfl⟩
    | 4, hq => cases hq; exact ⟨pG_rf G19 (b := 8) (by omega) rfl (Or.inr ⟨_, List.mem_cons_self, rfl, by decide⟩), pG_ar G19 (b := 8) (by omega) rfl⟩
    | 5, hq => cases hq; exact ⟨pG_rf G19 (b := 9) (by omega) rfl (Or.inr ⟨_, List.mem_cons_self, rfl, by decide⟩), pG_ar G19 (b := 9) (by omega) rfl⟩
    | 6, hq => cases hq; exact ⟨pG_rf G19 (b := 10) (by omega) rfl (Or.inr ⟨_, List.mem_cons_self, rfl, by decide⟩), pG_ar G19 (b := 10) (by omega) rfl⟩
    | 7, hq => cases hq; exact ⟨pG_rf G19 (b := 11) (by omega) rfl (Or.inr ⟨_, List.mem_cons_self, rfl, by decide⟩), pG_ar G19 (b := 11) (by omega) rfl⟩
    | k + 8, hq => simp [zLt_Board] at hq
  refine zP_ecallVv [] _ lv_X0_46 (k_clear (d := d - 1) hl (by omega) hK) (pG_ob G19 (by omega) rfl) rfl (by omega) (Nat.le_of_ble_eq_true rfl) rfl dX0_init_85 (fun I20 q20 => ?_)
  obtain ⟨e20, f20⟩ := q20
  refine zJ_aload_n dX0_init_88 rfl ?_
  refine zP_ecallVv [] _ lv_X0_49 (k_finish (d := d - 1) hl (by omega) hK f20 rb0_ok) (pG_ob G19 (by omega) rfl) rfl (by omega) (Nat.le_of_ble_eq_true rfl) rfl dX0_init_89 (fun I21 q21 => ?_)
  obtain ⟨e21, f21⟩ := q21
  refine zJ_vret rfl dX0_init_92 ?_
  exact ⟨rfl, _, _, rfl, pG_fin G19 (fun j b h => (by decide +kernel : ∀ j, j < 12 → zJ0 3 j ≠ none → j ∈ [11, 10, 9, 8, 7, 6, 5, 4]) j (getD_lt h) (by rw [h]; exact fun y => by cases y)), (fun k hk => by rw [e21 k (by omega), e20 k (by omega), e18 k (by omega), e16 k (by omega), e14 k (by omega), e12 k (by omega), e10 k (by omega), e8 k (by omega), e6 k (by omega), e4 k (by omega), e3 k (by omega), e2 k (by omega), e1 k (by omega)]), f21⟩
theorem i_X0_12 (hl : l.stackTraces = false) (hd : 4 ≤ d) {uc : List (Nat × List Nat)} (G : pG 13 ((12, []) :: uc) g) : zC l Xi mX0_init d 8 490 [.ref 12] (I, g) (fun r h' => r = .inl none ∧ ∃ J g', h' = (J, g') ∧ pG 21 uc g' ∧ (∀ k, k < 12 ∨ 21 ≤ k → J k = I k) ∧ cFin J 12 rb0) := by
  refine zC_of hl rfl rfl rfl (Nat.le_of_ble_eq_true rfl) (zav_r (show _ < g.1 by rw [G.1]; omega) zav_0) ?_
  refine zJ_aload_n dX0_init_0 rfl ?_
  refine zJ_objInit lo_X0_3 (Nat.le_of_ble_eq_true rfl) (by omega) dX0_init_1 ?_
  refine zJ_aload_n dX0_init_4 rfl ?_
  refine zJ_iconst (v := nI 4) dX0_init_5 rfl ?_
  refine zP_puti lf_X0_9 (pG_ob G (by omega) rfl) rfl dX0_init_6 ?_
  obtain ⟨I1, h1⟩ : ∃ J, zup I 12 0 (nI 4) = J := ⟨_, rfl⟩
  rw [h1]
  have e1 : ∀ k, k ≠ 12 → I1 k = I k := fun k hk => by rw [← h1, zup_row hk]
  refine zJ_aload_n dX0_init_9 rfl ?_
  refine zJ_iconst (v := nI 4) dX0_init_10 rfl ?_
  refine zP_puti lf_X0_15 (pG_ob G (by omega) rfl) rfl dX0_init_11 ?_
  obtain ⟨I2, h2⟩ : ∃ J, zup I1 12 1 (nI 4) = J := ⟨_, rfl⟩
  rw [h2]
  have e2 : ∀ k, k ≠ 12 → I2 k = I1 k := fun k hk => by rw [← h2, zup_row hk]
  refine zJ_aload_n dX0_init_14 rfl ?_
  refine zJ_iconst (v := nI 1) dX0_init_15 rfl ?_
  refine zP_puti lf_X0_18 (pG_ob G (by omega) rfl) rfl dX0_init_16 ?_
  obtain ⟨I3, h3⟩ : ∃ J, zup I2 12 3 (nI 1) = J := ⟨_, rfl⟩
  rw [h3]
  have e3 : ∀ k, k ≠ 12 → I3 k = I2 k := fun k hk => by rw [← h3, zup_row hk]
  refine zJ_aload_n dX0_init_19 rfl ?_
  refine zJ_bipush (v := nI 6) dX0_init_20 rfl ?_
  refine zN_arr (kc := 7) (ks := 484) (N := 6) G rfl (fun _ => rfl) (by omega) rfl (by omega) dX0_init_22 (fun I4 g4 G4 e4 f4 => ?_)
  refine zN_put G4 lr_X0_21 rfl rfl (by omega) (by omega) rfl rfl ⟨by omega, by omega, by omega⟩ dX0_init_24 (fun g5 G5 => ?_)
  refine zJ_aload_n dX0_init_27 rfl ?_
  refine zJ_bipush (v := nI 6) dX0_init_28 rfl ?_
  refine zN_arr (kc := 6) (ks := 478) (N := 6) G5 rfl (fun _ => rfl) (by omega) rfl (by omega) dX0_init_30 (fun I6 g6 G6 e6 f6 => ?_)
  refine zN_put G6 lr_X0_25 rfl rfl (by omega) (by omega) rfl rfl ⟨by omega, by omega, by omega⟩ dX0_init_32 (fun g7 G7 => ?_)
  refine zJ_aload_n dX0_init_35 rfl ?_
  refine zJ_bipush (v := nI 6) dX0_init_36 rfl ?_
  refine zN_arr (kc := 5) (ks := 472) (N := 6) G7 rfl (fun _ => rfl) (by omega) rfl (by omega) dX0_init_38 (fun I8 g8 G8 e8 f8 => ?_)
  refine zN_put G8 lr_X0_28 rfl rfl (by omega) (by omega) rfl rfl ⟨by omega, by omega, by omega⟩ dX0_init_40 (fun g9 G9 => ?_)
  refine zJ_aload_n dX0_init_43 rfl ?_
  refine zJ_bipush (v := nI 24) dX0_init_44 rfl ?_
  refine zN_arr (kc := 4) (ks := 448) (N := 24) G9 rfl (fun _ => rfl) (by omega) rfl (by omega) dX0_init_46 (fun I10 g10 G10 e10 f10 => ?_)
  refine zN_put G10 lr_X0_31 rfl rfl (by omega) (by omega) rfl rfl ⟨by omega, by omega, by omega⟩ dX0_init_48 (fun g11 G11 => ?_)
  refine zJ_aload_n dX0_init_51 rfl ?_
  refine zJ_bipush (v := nI 64) dX0_init_52 rfl ?_
  refine zN_arr (kc := 3) (ks := 384) (N := 64) G11 rfl (fun _ => rfl) (by omega) rfl (by omega) dX0_init_54 (fun I12 g12 G12 e12 f12 => ?_)
  refine zN_put G12 lr_X0_34 rfl rfl (by omega) (by omega) rfl rfl ⟨by omega, by omega, by omega⟩ dX0_init_56 (fun g13 G13 => ?_)
  refine zJ_aload_n dX0_init_59 rfl ?_
  refine zJ_bipush (v := nI 64) dX0_init_60 rfl ?_
  refine zN_arr (kc := 2) (ks := 320) (N := 64) G13 rfl (fun _ => rfl) (by omega) rfl (by omega) dX0_init_62 (fun I14 g14 G14 e14 f14 => ?_)
  refine zN_put G14 lr_X0_37 rfl rfl (by omega) (by omega) rfl rfl ⟨by omega, by omega, by omega⟩ dX0_init_64 (fun g15 G15 => ?_)
  refine zJ_aload_n dX0_init_67 rfl ?_
  refine zJ_bipush (v := nI 64) dX0_init_68 rfl ?_
  refine zN_arr (kc := 1) (ks := 256) (N := 64) G15 rfl (fun _ => rfl) (by omega) rfl (by omega) dX0_init_70 (fun I16 g16 G16 e16 f16 => ?_)
  refine zN_put G16 lr_X0_40 rfl rfl (by omega) (by omega) rfl rfl ⟨by omega, by omega, by omega⟩ dX0_init_72 (fun g17 G17 => ?_)
  refine zJ_aload_n dX0_init_75 rfl ?_
  refine zJ_sipush (v := nI 256) dX0_init_76 rfl ?_
  refine zN_arr (kc := 0) (ks := 0) (N := 256) G17 rfl (fun _ => rfl) (by omega) rfl (by omega) dX0_init_79 (fun I18 g18 G18 e18 f18 => ?_)
  refine zN_put G18 lr_X0_43 rfl rfl (by omega) (by omega) rfl rfl ⟨by omega, by omega, by omega⟩ dX0_init_81 (fun g19 G19 => ?_)
  refine zJ_aload_n dX0_init_84 rfl ?_
  have hK : zK g19 12 0 zLt_Board := by
    refine ⟨pG_ob G19 (by omega) rfl, fun k q hq => ?_⟩
    match k, hq with
    | 0, hq => cases hq; exact ⟨pG_rf G19 (b := 13) (by omega) rfl (Or.inr ⟨_, List.mem_cons_self, rfl, by decide⟩), pG_ar G19 (b := 13) (by omega) rfl⟩
    | 1, hq => cases hq; exact ⟨pG_rf G19 (b := 14) (by omega) rfl (Or.inr ⟨_, List.mem_cons_self, rfl, by decide⟩), pG_ar G19 (b := 14) (by omega) rfl⟩
    | 2, hq => cases hq; exact ⟨pG_rf G19 (b := 15) (by omega) rfl (Or.inr ⟨_, List.mem_cons_self, rfl, by decide⟩), pG_ar G19 (b := 15) (by omega) rfl⟩
    | 3, hq => cases hq; exact ⟨pG_rf G19 (b := 16) (by omega) rfl (Or.inr ⟨_, List.mem_cons_self, rfl, by decide⟩), pG_ar G19 (b := 16) (by omega) rfl⟩
    | 4, hq => cases hq; exact ⟨pG_rf G19 (b := 17) (by omega) rfl (Or.inr ⟨_, List.mem_cons_self, rfl, by decide⟩), pG_ar G19 (b := 17) (by omega) rfl⟩
    | 5, hq => cases hq; exact ⟨pG_rf G19 (b := 18) (by omega) rfl (Or.inr ⟨_, List.mem_cons_self, rfl, by decide⟩), pG_ar G19 (b := 18) (by omega) rfl⟩
    | 6, hq => cases hq; exact ⟨pG_rf G19 (b := 19) (by omega) rfl (Or.inr ⟨_, List.mem_cons_self, rfl, by decide⟩), pG_ar G19 (b := 19) (by omega) rfl⟩
    | 7, hq => cases hq; exact ⟨pG_rf G19 (b := 20) (by omega) rfl (Or.inr ⟨_, List.mem_cons_self, rfl, by decide⟩), pG_ar G19 (b := 20) (by omega) rfl⟩
    | k + 8, hq => simp [zLt_Board] at hq
  refine zP_ecallVv [] _ lv_X0_46 (k_clear (d := d - 1) hl (by omega) hK) (pG_ob G19 (by omega) rfl) rfl (by omega) (Nat.le_of_ble_eq_true rfl) rfl dX0_init_85 (fun I20 q20 => ?_)
  obtain ⟨e20, f20⟩ := q20
  refine zJ_aload_n dX0_init_88 rfl ?_
  refine zP_ecallVv [] _ lv_X0_49 (k_finish (d := d - 1) hl (by omega) hK f20 rb0_ok) (pG_ob G19 (by omega) rfl) rfl (by omega) (Nat.le_of_ble_eq_true rfl) rfl dX0_init_89 (fun I21 q21 => ?_)
  obtain ⟨e21, f21⟩ := q21
  refine zJ_vret rfl dX0_init_92 ?_
  exact ⟨rfl, _, _, rfl, pG_fin G19 (fun j b h => (by decide +kernel : ∀ j, j < 12 → zJ0 12 j ≠ none → j ∈ [11, 10, 9, 8, 7, 6, 5, 4]) j (getD_lt h) (by rw [h]; exact fun y => by cases y)), (fun k hk => by rw [e21 k (by omega), e20 k (by omega), e18 k (by omega), e16 k (by omega), e14 k (by omega), e12 k (by omega), e10 k (by omega), e8 k (by omega), e6 k (by omega), e4 k (by omega), e3 k (by omega), e2 k (by omega), e1 k (by omega)]), f21⟩
theorem i_X5_21 (hl : l.stackTraces = false) (hd : 3 ≤ d) {uc : List (Nat × List Nat)} (G : pG 22 ((21, []) :: uc) g) : zC l Xi mX5_init d 3 190 [.ref 21] (I, g) (fun r h' => r = .inl none ∧ ∃ J g', h' = (J, g') ∧ pG 25 uc g' ∧ (∀ k, k < 21 ∨ 25 ≤ k → J k = I k) ∧ True) := by
  refine zC_of hl rfl rfl rfl (Nat.le_of_ble_eq_true rfl) (zav_r (show _ < g.1 by rw [G.1]; omega) zav_0) ?_
  refine zJ_aload_n dX5_init_0 rfl ?_
  refine zJ_objInit lo_X5_3 (Nat.le_of_ble_eq_true rfl) (by omega) dX5_init_1 ?_
  refine zJ_aload_n dX5_init_4 rfl ?_
  refine zJ_bipush (v := nI 8) dX5_init_5 rfl ?_
  refine zN_arr (kc := 2) (ks := 182) (N := 8) G rfl (fun _ => rfl) (by omega) rfl (by omega) dX5_init_7 (fun I1 g1 G1 e1 f1 => ?_)
  refine zN_put G1 lr_X5_9 rfl rfl (by omega) (by omega) rfl rfl ⟨by omega, by omega, by omega⟩ dX5_init_9 (fun g2 G2 => ?_)
  refine zJ_aload_n dX5_init_12 rfl ?_
  refine zJ_sipush (v := nI 150) dX5_init_13 rfl ?_
  refine zN_arr (kc := 1) (ks := 32) (N := 150) G2 rfl (fun _ => rfl) (by omega) rfl (by omega) dX5_init_16 (fun I3 g3 G3 e3 f3 => ?_)
  refine zN_put G3 lr_X5_15 rfl rfl (by omega) (by omega) rfl rfl ⟨by omega, by omega, by omega⟩ dX5_init_18 (fun g4 G4 => ?_)
  refine zJ_aload_n dX5_init_21 rfl ?_
  refine zJ_bipush (v := nI 32) dX5_init_22 rfl ?_
  refine zN_arr (kc := 0) (ks := 0) (N := 32) G4 rfl (fun _ => rfl) (by omega) rfl (by omega) dX5_init_24 (fun I5 g5 G5 e5 f5 => ?_)
  refine zN_put G5 lr_X5_18 rfl rfl (by omega) (by omega) rfl rfl ⟨by omega, by omega, by omega⟩ dX5_init_26 (fun g6 G6 => ?_)
  refine zJ_aload_n dX5_init_29 rfl ?_
  have hK : zK g6 21 5 zLt_Law := by
    refine ⟨pG_ob G6 (by omega) rfl, fun k q hq => ?_⟩
    match k, hq with
    | 0, hq => cases hq; exact ⟨pG_rf G6 (b := 22) (by omega) rfl (Or.inr ⟨_, List.mem_cons_self, rfl, by decide⟩), pG_ar G6 (b := 22) (by omega) rfl⟩
    | 1, hq => cases hq; exact ⟨pG_rf G6 (b := 23) (by omega) rfl (Or.inr ⟨_, List.mem_cons_self, rfl, by decide⟩), pG_ar G6 (b := 23) (by omega) rfl⟩
    | 2, hq => cases hq; exact ⟨pG_rf G6 (b := 24) (by omega) rfl (Or.inr ⟨_, List.mem_cons_self, rfl, by decide⟩), pG_ar G6 (b := 24) (by omega) rfl⟩
    | k + 3, hq => simp [zLt_Law] at hq
  refine zP_ecallVv [] _ lv_X5_21 (k_lawForget (d := d - 1) hl (by omega) hK) (pG_ob G6 (by omega) rfl) rfl (by omega) (Nat.le_of_ble_eq_true rfl) rfl dX5_init_30 (fun I7 q7 => ?_)
  have e7 := q7.1
  refine zJ_vret rfl dX5_init_33 ?_
  exact ⟨rfl, _, _, rfl, pG_fin G6 (fun j b h => (by decide +kernel : ∀ j, j < 3 → zJ0 21 j ≠ none → j ∈ [2, 1, 0]) j (getD_lt h) (by rw [h]; exact fun y => by cases y)), (fun k hk => by rw [e7 k (by omega) (by omega), e5 k (by omega), e3 k (by omega), e1 k (by omega)]), trivial⟩
theorem i_X5_25 (hl : l.stackTraces = false) (hd : 3 ≤ d) {uc : List (Nat × List Nat)} (G : pG 26 ((25, []) :: uc) g) : zC l Xi mX5_init d 3 190 [.ref 25] (I, g) (fun r h' => r = .inl none ∧ ∃ J g', h' = (J, g') ∧ pG 29 uc g' ∧ (∀ k, k < 25 ∨ 29 ≤ k → J k = I k) ∧ True) := by
  refine zC_of hl rfl rfl rfl (Nat.le_of_ble_eq_true rfl) (zav_r (show _ < g.1 by rw [G.1]; omega) zav_0) ?_
  refine zJ_aload_n dX5_init_0 rfl ?_
  refine zJ_objInit lo_X5_3 (Nat.le_of_ble_eq_true rfl) (by omega) dX5_init_1 ?_
  refine zJ_aload_n dX5_init_4 rfl ?_
  refine zJ_bipush (v := nI 8) dX5_init_5 rfl ?_
  refine zN_arr (kc := 2) (ks := 182) (N := 8) G rfl (fun _ => rfl) (by omega) rfl (by omega) dX5_init_7 (fun I1 g1 G1 e1 f1 => ?_)
  refine zN_put G1 lr_X5_9 rfl rfl (by omega) (by omega) rfl rfl ⟨by omega, by omega, by omega⟩ dX5_init_9 (fun g2 G2 => ?_)
  refine zJ_aload_n dX5_init_12 rfl ?_
  refine zJ_sipush (v := nI 150) dX5_init_13 rfl ?_
  refine zN_arr (kc := 1) (ks := 32) (N := 150) G2 rfl (fun _ => rfl) (by omega) rfl (by omega) dX5_init_16 (fun I3 g3 G3 e3 f3 => ?_)
  refine zN_put G3 lr_X5_15 rfl rfl (by omega) (by omega) rfl rfl ⟨by omega, by omega, by omega⟩ dX5_init_18 (fun g4 G4 => ?_)
  refine zJ_aload_n dX5_init_21 rfl ?_
  refine zJ_bipush (v := nI 32) dX5_init_22 rfl ?_
  refine zN_arr (kc := 0) (ks := 0) (N := 32) G4 rfl (fun _ => rfl) (by omega) rfl (by omega) dX5_init_24 (fun I5 g5 G5 e5 f5 => ?_)
  refine zN_put G5 lr_X5_18 rfl rfl (by omega) (by omega) rfl rfl ⟨by omega, by omega, by omega⟩ dX5_init_26 (fun g6 G6 => ?_)
  refine zJ_aload_n dX5_init_29 rfl ?_
  have hK : zK g6 25 5 zLt_Law := by
    refine ⟨pG_ob G6 (by omega) rfl, fun k q hq => ?_⟩
    match k, hq with
    | 0, hq => cases hq; exact ⟨pG_rf G6 (b := 26) (by omega) rfl (Or.inr ⟨_, List.mem_cons_self, rfl, by decide⟩), pG_ar G6 (b := 26) (by omega) rfl⟩
    | 1, hq => cases hq; exact ⟨pG_rf G6 (b := 27) (by omega) rfl (Or.inr ⟨_, List.mem_cons_self, rfl, by decide⟩), pG_ar G6 (b := 27) (by omega) rfl⟩
    | 2, hq => cases hq; exact ⟨pG_rf G6 (b := 28) (by omega) rfl (Or.inr ⟨_, List.mem_cons_self, rfl, by decide⟩), pG_ar G6 (b := 28) (by omega) rfl⟩
    | k + 3, hq => simp [zLt_Law] at hq
  refine zP_ecallVv [] _ lv_X5_21 (k_lawForget (d := d - 1) hl (by omega) hK) (pG_ob G6 (by omega) rfl) rfl (by omega) (Nat.le_of_ble_eq_true rfl) rfl dX5_init_30 (fun I7 q7 => ?_)
  have e7 := q7.1
  refine zJ_vret rfl dX5_init_33 ?_
  exact ⟨rfl, _, _, rfl, pG_fin G6 (fun j b h => (by decide +kernel : ∀ j, j < 3 → zJ0 25 j ≠ none → j ∈ [2, 1, 0]) j (getD_lt h) (by rw [h]; exact fun y => by cases y)), (fun k hk => by rw [e7 k (by omega) (by omega), e5 k (by omega), e3 k (by omega), e1 k (by omega)]), trivial⟩
theorem i_X1_29 (hl : l.stackTraces = false) (hd : 2 ≤ d) {uc : List (Nat × List Nat)} (G : pG 30 ((29, []) :: uc) g) : zC l Xi mX1_init d 2 16 [.ref 29] (I, g) (fun r h' => r = .inl none ∧ ∃ J g', h' = (J, g') ∧ pG 32 uc g' ∧ (∀ k, k < 29 ∨ 32 ≤ k → J k = I k) ∧ True) := by
  refine zC_of hl rfl rfl rfl (Nat.le_of_ble_eq_true rfl) (zav_r (show _ < g.1 by rw [G.1]; omega) zav_0) ?_
  refine zJ_aload_n dX1_init_0 rfl ?_
  refine zJ_objInit lo_X1_3 (Nat.le_of_ble_eq_true rfl) (by omega) dX1_init_1 ?_
  refine zJ_aload_n dX1_init_4 rfl ?_
  refine zJ_bipush (v := nI 8) dX1_init_5 rfl ?_
  refine zN_arr (kc := 1) (ks := 8) (N := 8) G rfl (fun _ => rfl) (by omega) rfl (by omega) dX1_init_7 (fun I1 g1 G1 e1 f1 => ?_)
  refine zN_put G1 lr_X1_9 rfl rfl (by omega) (by omega) rfl rfl ⟨by omega, by omega, by omega⟩ dX1_init_9 (fun g2 G2 => ?_)
  refine zJ_aload_n dX1_init_12 rfl ?_
  refine zJ_bipush (v := nI 8) dX1_init_13 rfl ?_
  refine zN_arr (kc := 0) (ks := 0) (N := 8) G2 rfl (fun _ => rfl) (by omega) rfl (by omega) dX1_init_15 (fun I3 g3 G3 e3 f3 => ?_)
  refine zN_put G3 lr_X1_15 rfl rfl (by omega) (by omega) rfl rfl ⟨by omega, by omega, by omega⟩ dX1_init_17 (fun g4 G4 => ?_)
  refine zJ_vret rfl dX1_init_20 ?_
  exact ⟨rfl, _, _, rfl, pG_fin G4 (fun j b h => (by decide +kernel : ∀ j, j < 3 → zJ0 29 j ≠ none → j ∈ [2, 1]) j (getD_lt h) (by rw [h]; exact fun y => by cases y)), (fun k hk => by rw [e3 k (by omega), e1 k (by omega)]), trivial⟩
theorem i_X1_32 (hl : l.stackTraces = false) (hd : 2 ≤ d) {uc : List (Nat × List Nat)} (G : pG 33 ((32, []) :: uc) g) : zC l Xi mX1_init d 2 16 [.ref 32] (I, g) (fun r h' => r = .inl none ∧ ∃ J g', h' = (J, g') ∧ pG 35 uc g' ∧ (∀ k, k < 32 ∨ 35 ≤ k → J k = I k) ∧ True) := by
  refine zC_of hl rfl rfl rfl (Nat.le_of_ble_eq_true rfl) (zav_r (show _ < g.1 by rw [G.1]; omega) zav_0) ?_
  refine zJ_aload_n dX1_init_0 rfl ?_
  refine zJ_objInit lo_X1_3 (Nat.le_of_ble_eq_true rfl) (by omega) dX1_init_1 ?_
  refine zJ_aload_n dX1_init_4 rfl ?_
  refine zJ_bipush (v := nI 8) dX1_init_5 rfl ?_
  refine zN_arr (kc := 1) (ks := 8) (N := 8) G rfl (fun _ => rfl) (by omega) rfl (by omega) dX1_init_7 (fun I1 g1 G1 e1 f1 => ?_)
  refine zN_put G1 lr_X1_9 rfl rfl (by omega) (by omega) rfl rfl ⟨by omega, by omega, by omega⟩ dX1_init_9 (fun g2 G2 => ?_)
  refine zJ_aload_n dX1_init_12 rfl ?_
  refine zJ_bipush (v := nI 8) dX1_init_13 rfl ?_
  refine zN_arr (kc := 0) (ks := 0) (N := 8) G2 rfl (fun _ => rfl) (by omega) rfl (by omega) dX1_init_15 (fun I3 g3 G3 e3 f3 => ?_)
  refine zN_put G3 lr_X1_15 rfl rfl (by omega) (by omega) rfl rfl ⟨by omega, by omega, by omega⟩ dX1_init_17 (fun g4 G4 => ?_)
  refine zJ_vret rfl dX1_init_20 ?_
  exact ⟨rfl, _, _, rfl, pG_fin G4 (fun j b h => (by decide +kernel : ∀ j, j < 3 → zJ0 32 j ≠ none → j ∈ [2, 1]) j (getD_lt h) (by rw [h]; exact fun y => by cases y)), (fun k hk => by rw [e3 k (by omega), e1 k (by omega)]), trivial⟩
theorem i_X11_35 (hl : l.stackTraces = false) (hd : 2 ≤ d) {uc : List (Nat × List Nat)} (G : pG 36 ((35, []) :: uc) g) : zC l Xi mX11_init d 5 462 [.ref 35] (I, g) (fun r h' => r = .inl none ∧ ∃ J g', h' = (J, g') ∧ pG 41 uc g' ∧ (∀ k, k < 35 ∨ 41 ≤ k → J k = I k) ∧ True) := by
  refine zC_of hl rfl rfl rfl (Nat.le_of_ble_eq_true rfl) (zav_r (show _ < g.1 by rw [G.1]; omega) zav_0) ?_
  refine zJ_aload_n dX11_init_0 rfl ?_
  refine zJ_objInit lo_X11_3 (Nat.le_of_ble_eq_true rfl) (by omega) dX11_init_1 ?_
  refine zJ_aload_n dX11_init_4 rfl ?_
  refine zJ_sipush (v := nI 150) dX11_init_5 rfl ?_
  refine zN_arr (kc := 4) (ks := 312) (N := 150) G rfl (fun _ => rfl) (by omega) rfl (by omega) dX11_init_8 (fun I1 g1 G1 e1 f1 => ?_)
  refine zN_put G1 lr_X11_9 rfl rfl (by omega) (by omega) rfl rfl ⟨by omega, by omega, by omega⟩ dX11_init_10 (fun g2 G2 => ?_)
  refine zJ_aload_n dX11_init_13 rfl ?_
  refine zJ_sipush (v := nI 150) dX11_init_14 rfl ?_
  refine zN_arr (kc := 3) (ks := 162) (N := 150) G2 rfl (fun _ => rfl) (by omega) rfl (by omega) dX11_init_17 (fun I3 g3 G3 e3 f3 => ?_)
  refine zN_put G3 lr_X11_15 rfl rfl (by omega) (by omega) rfl rfl ⟨by omega, by omega, by omega⟩ dX11_init_19 (fun g4 G4 => ?_)
  refine zJ_aload_n dX11_init_22 rfl ?_
  refine zJ_sipush (v := nI 150) dX11_init_23 rfl ?_
  refine zN_arr (kc := 2) (ks := 12) (N := 150) G4 rfl (fun _ => rfl) (by omega) rfl (by omega) dX11_init_26 (fun I5 g5 G5 e5 f5 => ?_)
  refine zN_put G5 lr_X11_18 rfl rfl (by omega) (by omega) rfl rfl ⟨by omega, by omega, by omega⟩ dX11_init_28 (fun g6 G6 => ?_)
  refine zJ_aload_n dX11_init_31 rfl ?_
  refine zJ_bipush (v := nI 6) dX11_init_32 rfl ?_
  refine zN_arr (kc := 1) (ks := 6) (N := 6) G6 rfl (fun _ => rfl) (by omega) rfl (by omega) dX11_init_34 (fun I7 g7 G7 e7 f7 => ?_)
  refine zN_put G7 lr_X11_21 rfl rfl (by omega) (by omega) rfl rfl ⟨by omega, by omega, by omega⟩ dX11_init_36 (fun g8 G8 => ?_)
  refine zJ_aload_n dX11_init_39 rfl ?_
  refine zJ_bipush (v := nI 6) dX11_init_40 rfl ?_
  refine zN_arr (kc := 0) (ks := 0) (N := 6) G8 rfl (fun _ => rfl) (by omega) rfl (by omega) dX11_init_42 (fun I9 g9 G9 e9 f9 => ?_)
  refine zN_put G9 lr_X11_24 rfl rfl (by omega) (by omega) rfl rfl ⟨by omega, by omega, by omega⟩ dX11_init_44 (fun g10 G10 => ?_)
  refine zJ_vret rfl dX11_init_47 ?_
  exact ⟨rfl, _, _, rfl, pG_fin G10 (fun j b h => (by decide +kernel : ∀ j, j < 8 → zJ0 35 j ≠ none → j ∈ [7, 6, 5, 4, 3]) j (getD_lt h) (by rw [h]; exact fun y => by cases y)), (fun k hk => by rw [e9 k (by omega), e7 k (by omega), e5 k (by omega), e3 k (by omega), e1 k (by omega)]), trivial⟩
theorem i_X9_41 (hl : l.stackTraces = false) (hd : 2 ≤ d) {uc : List (Nat × List Nat)} (G : pG 42 ((41, []) :: uc) g) : zC l Xi mX9_init d 1 64 [.ref 41, .ref 3] (I, g) (fun r h' => r = .inl none ∧ ∃ J g', h' = (J, g') ∧ pG 43 uc g' ∧ (∀ k, k < 41 ∨ 43 ≤ k → J k = I k) ∧ True) := by
  refine zC_of hl rfl rfl rfl (Nat.le_of_ble_eq_true rfl) (zav_r (show _ < g.1 by rw [G.1]; omega) (zav_r (show _ < g.1 by rw [G.1]; omega) zav_0)) ?_
  refine zJ_aload_n dX9_init_0 rfl ?_
  refine zJ_objInit lo_X9_3 (Nat.le_of_ble_eq_true rfl) (by omega) dX9_init_1 ?_
  refine zJ_aload_n dX9_init_4 rfl ?_
  refine zJ_bipush (v := nI 64) dX9_init_5 rfl ?_
  refine zN_arr (kc := 0) (ks := 0) (N := 64) G rfl (fun _ => rfl) (by omega) rfl (by omega) dX9_init_7 (fun I1 g1 G1 e1 f1 => ?_)
  refine zN_put G1 lr_X9_9 rfl rfl (by omega) (by omega) rfl rfl ⟨by omega, by omega, by omega⟩ dX9_init_9 (fun g2 G2 => ?_)
  refine zJ_aload_n dX9_init_12 rfl ?_
  refine zJ_aload_n dX9_init_13 rfl ?_
  refine zN_put G2 lr_X9_15 rfl rfl (by omega) (by omega) rfl rfl ⟨by omega, by omega, by omega⟩ dX9_init_14 (fun g3 G3 => ?_)
  refine zJ_vret rfl dX9_init_17 ?_
  exact ⟨rfl, _, _, rfl, pG_fin G3 (fun j b h => (by decide +kernel : ∀ j, j < 2 → zJ0 41 j ≠ none → j ∈ [0, 1]) j (getD_lt h) (by rw [h]; exact fun y => by cases y)), (fun k hk => by rw [e1 k (by omega)]), trivial⟩
theorem i_X3_44 (hl : l.stackTraces = false) (hd : 2 ≤ d) {uc : List (Nat × List Nat)} (G : pG 45 ((44, []) :: uc) g) : zC l Xi mX3_init d 1 320 [.ref 44] (I, g) (fun r h' => r = .inl none ∧ ∃ J g', h' = (J, g') ∧ pG 46 uc g' ∧ (∀ k, k < 44 ∨ 46 ≤ k → J k = I k) ∧ True) := by
  refine zC_of hl rfl rfl rfl (Nat.le_of_ble_eq_true rfl) (zav_r (show _ < g.1 by rw [G.1]; omega) zav_0) ?_
  refine zJ_aload_n dX3_init_0 rfl ?_
  refine zJ_objInit lo_X3_3 (Nat.le_of_ble_eq_true rfl) (by omega) dX3_init_1 ?_
  refine zJ_aload_n dX3_init_4 rfl ?_
  refine zJ_sipush (v := nI 320) dX3_init_5 rfl ?_
  refine zN_arr (kc := 0) (ks := 0) (N := 320) G rfl (fun _ => rfl) (by omega) rfl (by omega) dX3_init_8 (fun I1 g1 G1 e1 f1 => ?_)
  refine zN_put G1 lr_X3_11 rfl rfl (by omega) (by omega) rfl rfl ⟨by omega, by omega, by omega⟩ dX3_init_10 (fun g2 G2 => ?_)
  refine zJ_vret rfl dX3_init_13 ?_
  exact ⟨rfl, _, _, rfl, pG_fin G2 (fun j b h => (by decide +kernel : ∀ j, j < 1 → zJ0 44 j ≠ none → j ∈ [0]) j (getD_lt h) (by rw [h]; exact fun y => by cases y)), (fun k hk => by rw [e1 k (by omega)]), trivial⟩
theorem i_X6_43 (hl : l.stackTraces = false) (hd : 3 ≤ d) {uc : List (Nat × List Nat)} (G : pG 44 ((43, []) :: uc) g) : zC l Xi mX6_init d 5 514 [.ref 43, .ref 3, .ref 21, .ref 41] (I, g) (fun r h' => r = .inl none ∧ ∃ J g', h' = (J, g') ∧ pG 49 uc g' ∧ (∀ k, k < 43 ∨ 49 ≤ k → J k = I k) ∧ True) := by
  refine zC_of hl rfl rfl rfl (Nat.le_of_ble_eq_true rfl) (zav_r (show _ < g.1 by rw [G.1]; omega) (zav_r (show _ < g.1 by rw [G.1]; omega) (zav_r (show _ < g.1 by rw [G.1]; omega) (zav_r (show _ < g.1 by rw [G.1]; omega) zav_0)))) ?_
  refine zJ_aload_n dX6_init_0 rfl ?_
  refine zJ_objInit lo_X6_3 (Nat.le_of_ble_eq_true rfl) (by omega) dX6_init_1 ?_
  refine zJ_aload_n dX6_init_4 rfl ?_
  refine zN_obj (kc := 4) (ks := 512) (N := 2) G ln_X6_9 rfl (by omega) dX6_init_5 (fun I1 g1 G1 e1 f1 => ?_)
  refine zJ_dup dX6_init_8 rfl ?_
  refine zJ_callIN (kc := 3) (ks := 192) [.ref 44, .ref 43] li_X6_11 (i_X3_44 (d := d - 1) hl (by omega) G1) (fun E h1 q => by cases q.1) rfl (by omega) (Nat.le_of_ble_eq_true rfl) dX6_init_9 (fun r h1 q _ => ?_)
  obtain ⟨q1, I2, g2, q2, G2, e2, f2⟩ := q
  cases q1
  subst q2
  refine zN_put G2 lr_X6_12 rfl rfl (by omega) (by omega) rfl rfl ⟨by omega, by omega, by omega⟩ dX6_init_12 (fun g3 G3 => ?_)
  refine zJ_aload_n dX6_init_15 rfl ?_
  refine zJ_bipush (v := nI 64) dX6_init_16 rfl ?_
  refine zN_arr (kc := 2) (ks := 128) (N := 64) G3 rfl (fun _ => rfl) (by omega) rfl (by omega) dX6_init_18 (fun I4 g4 G4 e4 f4 => ?_)
  refine zN_put G4 lr_X6_18 rfl rfl (by omega) (by omega) rfl rfl ⟨by omega, by omega, by omega⟩ dX6_init_20 (fun g5 G5 => ?_)
  refine zJ_aload_n dX6_init_23 rfl ?_
  refine zJ_bipush (v := nI 64) dX6_init_24 rfl ?_
  refine zN_arr (kc := 1) (ks := 64) (N := 64) G5 rfl (fun _ => rfl) (by omega) rfl (by omega) dX6_init_26 (fun I6 g6 G6 e6 f6 => ?_)
  refine zN_put G6 lr_X6_22 rfl rfl (by omega) (by omega) rfl rfl ⟨by omega, by omega, by omega⟩ dX6_init_28 (fun g7 G7 => ?_)
  refine zJ_aload_n dX6_init_31 rfl ?_
  refine zJ_bipush (v := nI 64) dX6_init_32 rfl ?_
  refine zN_arr (kc := 0) (ks := 0) (N := 64) G7 rfl (fun _ => rfl) (by omega) rfl (by omega) dX6_init_34 (fun I8 g8 G8 e8 f8 => ?_)
  refine zN_put G8 lr_X6_25 rfl rfl (by omega) (by omega) rfl rfl ⟨by omega, by omega, by omega⟩ dX6_init_36 (fun g9 G9 => ?_)
  refine zJ_aload_n dX6_init_39 rfl ?_
  refine zJ_aload_n dX6_init_40 rfl ?_
  refine zN_put G9 lr_X6_28 rfl rfl (by omega) (by omega) rfl rfl ⟨by omega, by omega, by omega⟩ dX6_init_41 (fun g10 G10 => ?_)
  refine zJ_aload_n dX6_init_44 rfl ?_
  refine zJ_aload_n dX6_init_45 rfl ?_
  refine zN_put G10 lr_X6_32 rfl rfl (by omega) (by omega) rfl rfl ⟨by omega, by omega, by omega⟩ dX6_init_46 (fun g11 G11 => ?_)
  refine zJ_aload_n dX6_init_49 rfl ?_
  refine zJ_aload_n dX6_init_50 rfl ?_
  refine zN_put G11 lr_X6_36 rfl rfl (by omega) (by omega) rfl rfl ⟨by omega, by omega, by omega⟩ dX6_init_51 (fun g12 G12 => ?_)
  refine zJ_vret rfl dX6_init_54 ?_
  exact ⟨rfl, _, _, rfl, pG_fin G12 (fun j b h => (by decide +kernel : ∀ j, j < 7 → zJ0 43 j ≠ none → j ∈ [2, 1, 0, 6, 5, 4, 3]) j (getD_lt h) (by rw [h]; exact fun y => by cases y)), (fun k hk => by rw [e8 k (by omega), e6 k (by omega), e4 k (by omega), e2 k (by omega), e1 k (by omega)]), trivial⟩
theorem i_X3_50 (hl : l.stackTraces = false) (hd : 2 ≤ d) {uc : List (Nat × List Nat)} (G : pG 51 ((50, []) :: uc) g) : zC l Xi mX3_init d 1 320 [.ref 50] (I, g) (fun r h' => r = .inl none ∧ ∃ J g', h' = (J, g') ∧ pG 52 uc g' ∧ (∀ k, k < 50 ∨ 52 ≤ k → J k = I k) ∧ True) := by
  refine zC_of hl rfl rfl rfl (Nat.le_of_ble_eq_true rfl) (zav_r (show _ < g.1 by rw [G.1]; omega) zav_0) ?_
  refine zJ_aload_n dX3_init_0 rfl ?_
  refine zJ_objInit lo_X3_3 (Nat.le_of_ble_eq_true rfl) (by omega) dX3_init_1 ?_
  refine zJ_aload_n dX3_init_4 rfl ?_
  refine zJ_sipush (v := nI 320) dX3_init_5 rfl ?_
  refine zN_arr (kc := 0) (ks := 0) (N := 320) G rfl (fun _ => rfl) (by omega) rfl (by omega) dX3_init_8 (fun I1 g1 G1 e1 f1 => ?_)
  refine zN_put G1 lr_X3_11 rfl rfl (by omega) (by omega) rfl rfl ⟨by omega, by omega, by omega⟩ dX3_init_10 (fun g2 G2 => ?_)
  refine zJ_vret rfl dX3_init_13 ?_
  exact ⟨rfl, _, _, rfl, pG_fin G2 (fun j b h => (by decide +kernel : ∀ j, j < 1 → zJ0 50 j ≠ none → j ∈ [0]) j (getD_lt h) (by rw [h]; exact fun y => by cases y)), (fun k hk => by rw [e1 k (by omega)]), trivial⟩
theorem i_X4_49 (hl : l.stackTraces = false) (hd : 3 ≤ d) {uc : List (Nat × List Nat)} (G : pG 50 ((49, []) :: uc) g) : zC l Xi mX4_init d 3 834 [.ref 49, .ref 3] (I, g) (fun r h' => r = .inl none ∧ ∃ J g', h' = (J, g') ∧ pG 53 uc g' ∧ (∀ k, k < 49 ∨ 53 ≤ k → J k = I k) ∧ True) := by
  refine zC_of hl rfl rfl rfl (Nat.le_of_ble_eq_true rfl) (zav_r (show _ < g.1 by rw [G.1]; omega) (zav_r (show _ < g.1 by rw [G.1]; omega) zav_0)) ?_
  refine zJ_aload_n dX4_init_0 rfl ?_
  refine zJ_objInit lo_X4_3 (Nat.le_of_ble_eq_true rfl) (by omega) dX4_init_1 ?_
  refine zJ_aload_n dX4_init_4 rfl ?_
  refine zN_obj (kc := 2) (ks := 832) (N := 2) G ln_X4_9 rfl (by omega) dX4_init_5 (fun I1 g1 G1 e1 f1 => ?_)
  refine zJ_dup dX4_init_8 rfl ?_
  refine zJ_callIN (kc := 1) (ks := 512) [.ref 50, .ref 49] li_X4_11 (i_X3_50 (d := d - 1) hl (by omega) G1) (fun E h1 q => by cases q.1) rfl (by omega) (Nat.le_of_ble_eq_true rfl) dX4_init_9 (fun r h1 q _ => ?_)
  obtain ⟨q1, I2, g2, q2, G2, e2, f2⟩ := q
  cases q1
  subst q2
  refine zN_put G2 lr_X4_12 rfl rfl (by omega) (by omega) rfl rfl ⟨by omega, by omega, by omega⟩ dX4_init_12 (fun g3 G3 => ?_)
  refine zJ_aload_n dX4_init_15 rfl ?_
  refine zJ_sipush (v := nI 512) dX4_init_16 rfl ?_
  refine zN_arr (kc := 0) (ks := 0) (N := 512) G3 rfl (fun _ => rfl) (by omega) rfl (by omega) dX4_init_19 (fun I4 g4 G4 e4 f4 => ?_)
  refine zN_put G4 lr_X4_18 rfl rfl (by omega) (by omega) rfl rfl ⟨by omega, by omega, by omega⟩ dX4_init_21 (fun g5 G5 => ?_)
  refine zJ_aload_n dX4_init_24 rfl ?_
  refine zJ_aload_n dX4_init_25 rfl ?_
  refine zN_put G5 lr_X4_22 rfl rfl (by omega) (by omega) rfl rfl ⟨by omega, by omega, by omega⟩ dX4_init_26 (fun g6 G6 => ?_)
  refine zJ_vret rfl dX4_init_29 ?_
  exact ⟨rfl, _, _, rfl, pG_fin G6 (fun j b h => (by decide +kernel : ∀ j, j < 3 → zJ0 49 j ≠ none → j ∈ [0, 2, 1]) j (getD_lt h) (by rw [h]; exact fun y => by cases y)), (fun k hk => by rw [e4 k (by omega), e2 k (by omega), e1 k (by omega)]), trivial⟩
theorem i_X2_53 (hl : l.stackTraces = false) (hd : 2 ≤ d) {uc : List (Nat × List Nat)} (G : pG 54 ((53, []) :: uc) g) : zC l Xi mX2_init d 3 787 [.ref 53, .ref 3, .ref 29, .ref 43] (I, g) (fun r h' => r = .inl none ∧ ∃ J g', h' = (J, g') ∧ pG 57 uc g' ∧ (∀ k, k < 53 ∨ 57 ≤ k → J k = I k) ∧ True) := by
  refine zC_of hl rfl rfl rfl (Nat.le_of_ble_eq_true rfl) (zav_r (show _ < g.1 by rw [G.1]; omega) (zav_r (show _ < g.1 by rw [G.1]; omega) (zav_r (show _ < g.1 by rw [G.1]; omega) (zav_r (show _ < g.1 by rw [G.1]; omega) zav_0)))) ?_
  refine zJ_aload_n dX2_init_0 rfl ?_
  refine zJ_objInit lo_X2_3 (Nat.le_of_ble_eq_true rfl) (by omega) dX2_init_1 ?_
  refine zJ_aload_n dX2_init_4 rfl ?_
  refine zJ_bipush (v := nI 12) dX2_init_5 rfl ?_
  refine zN_arr (kc := 2) (ks := 775) (N := 12) G rfl (fun _ => rfl) (by omega) rfl (by omega) dX2_init_7 (fun I1 g1 G1 e1 f1 => ?_)
  refine zN_put G1 lr_X2_11 rfl rfl (by omega) (by omega) rfl rfl ⟨by omega, by omega, by omega⟩ dX2_init_9 (fun g2 G2 => ?_)
  refine zJ_aload_n dX2_init_12 rfl ?_
  refine zJ_sipush (v := nI 768) dX2_init_13 rfl ?_
  refine zN_arr (kc := 1) (ks := 7) (N := 768) G2 rfl (fun _ => rfl) (by omega) rfl (by omega) dX2_init_16 (fun I3 g3 G3 e3 f3 => ?_)
  refine zN_put G3 lr_X2_15 rfl rfl (by omega) (by omega) rfl rfl ⟨by omega, by omega, by omega⟩ dX2_init_18 (fun g4 G4 => ?_)
  refine zJ_aload_n dX2_init_21 rfl ?_
  refine zJ_bipush (v := nI 7) dX2_init_22 rfl ?_
  refine zN_arr (kc := 0) (ks := 0) (N := 7) G4 rfl (fun _ => rfl) (by omega) rfl (by omega) dX2_init_24 (fun I5 g5 G5 e5 f5 => ?_)
  refine zN_put G5 lr_X2_18 rfl rfl (by omega) (by omega) rfl rfl ⟨by omega, by omega, by omega⟩ dX2_init_26 (fun g6 G6 => ?_)
  refine zJ_aload_n dX2_init_29 rfl ?_
  refine zJ_aload_n dX2_init_30 rfl ?_
  refine zN_put G6 lr_X2_21 rfl rfl (by omega) (by omega) rfl rfl ⟨by omega, by omega, by omega⟩ dX2_init_31 (fun g7 G7 => ?_)
  refine zJ_aload_n dX2_init_34 rfl ?_
  refine zJ_aload_n dX2_init_35 rfl ?_
  refine zN_put G7 lr_X2_25 rfl rfl (by omega) (by omega) rfl rfl ⟨by omega, by omega, by omega⟩ dX2_init_36 (fun g8 G8 => ?_)
  refine zJ_aload_n dX2_init_39 rfl ?_
  refine zJ_aload_n dX2_init_40 rfl ?_
  refine zN_put G8 lr_X2_29 rfl rfl (by omega) (by omega) rfl rfl ⟨by omega, by omega, by omega⟩ dX2_init_41 (fun g9 G9 => ?_)
  refine zJ_vret rfl dX2_init_44 ?_
  exact ⟨rfl, _, _, rfl, pG_fin G9 (fun j b h => (by decide +kernel : ∀ j, j < 6 → zJ0 53 j ≠ none → j ∈ [2, 1, 0, 5, 4, 3]) j (getD_lt h) (by rw [h]; exact fun y => by cases y)), (fun k hk => by rw [e5 k (by omega), e3 k (by omega), e1 k (by omega)]), trivial⟩
theorem i_X7_57 (hl : l.stackTraces = false) (hd : 2 ≤ d) {uc : List (Nat × List Nat)} (G : pG 58 ((57, []) :: uc) g) : zC l Xi mX7_init d 4 70 [.ref 57] (I, g) (fun r h' => r = .inl none ∧ ∃ J g', h' = (J, g') ∧ pG 62 uc g' ∧ (∀ k, k < 57 ∨ 62 ≤ k → J k = I k) ∧ True) := by
  refine zC_of hl rfl rfl rfl (Nat.le_of_ble_eq_true rfl) (zav_r (show _ < g.1 by rw [G.1]; omega) zav_0) ?_
  refine zJ_aload_n dX7_init_0 rfl ?_
  refine zJ_objInit lo_X7_3 (Nat.le_of_ble_eq_true rfl) (by omega) dX7_init_1 ?_
  refine zJ_aload_n dX7_init_4 rfl ?_
  refine zJ_bipush (v := nI 16) dX7_init_5 rfl ?_
  refine zN_que (kc := 3) (ks := 54) (N := 16) G rfl (fun _ => rfl) (by omega) rfl (by omega) lq_X7_9 dX7_init_7 (fun I1 g1 G1 e1 f1 => ?_)
  refine zN_put G1 lr_X7_11 rfl rfl (by omega) (by omega) rfl rfl ⟨by omega, by omega, by omega⟩ dX7_init_10 (fun g2 G2 => ?_)
  refine zJ_aload_n dX7_init_13 rfl ?_
  refine zJ_iconst (v := nI 3) dX7_init_14 rfl ?_
  refine zN_que (kc := 2) (ks := 51) (N := 3) G2 rfl (fun _ => rfl) (by omega) rfl (by omega) lq_X7_9 dX7_init_15 (fun I3 g3 G3 e3 f3 => ?_)
  refine zN_put G3 lr_X7_17 rfl rfl (by omega) (by omega) rfl rfl ⟨by omega, by omega, by omega⟩ dX7_init_18 (fun g4 G4 => ?_)
  refine zJ_aload_n dX7_init_21 rfl ?_
  refine zJ_bipush (v := nI 48) dX7_init_22 rfl ?_
  refine zN_que (kc := 1) (ks := 3) (N := 48) G4 rfl (fun _ => rfl) (by omega) rfl (by omega) lq_X7_9 dX7_init_24 (fun I5 g5 G5 e5 f5 => ?_)
  refine zN_put G5 lr_X7_20 rfl rfl (by omega) (by omega) rfl rfl ⟨by omega, by omega, by omega⟩ dX7_init_27 (fun g6 G6 => ?_)
  refine zJ_aload_n dX7_init_30 rfl ?_
  refine zJ_iconst (v := nI 3) dX7_init_31 rfl ?_
  refine zN_arr (kc := 0) (ks := 0) (N := 3) G6 rfl (fun _ => rfl) (by omega) rfl (by omega) dX7_init_32 (fun I7 g7 G7 e7 f7 => ?_)
  refine zN_put G7 lr_X7_23 rfl rfl (by omega) (by omega) rfl rfl ⟨by omega, by omega, by omega⟩ dX7_init_34 (fun g8 G8 => ?_)
  refine zJ_vret rfl dX7_init_37 ?_
  exact ⟨rfl, _, _, rfl, pG_fin G8 (fun j b h => (by decide +kernel : ∀ j, j < 6 → zJ0 57 j ≠ none → j ∈ [5, 4, 3, 2]) j (getD_lt h) (by rw [h]; exact fun y => by cases y)), (fun k hk => by rw [e7 k (by omega), e5 k (by omega), e3 k (by omega), e1 k (by omega)]), trivial⟩
theorem i_X8_62 (hl : l.stackTraces = false) (hd : 2 ≤ d) {uc : List (Nat × List Nat)} (G : pG 63 ((62, []) :: uc) g) : zC l Xi mX8_init d 5 582 [.ref 62] (I, g) (fun r h' => r = .inl none ∧ ∃ J g', h' = (J, g') ∧ pG 68 uc g' ∧ (∀ k, k < 62 ∨ 68 ≤ k → J k = I k) ∧ True) := by
  refine zC_of hl rfl rfl rfl (Nat.le_of_ble_eq_true rfl) (zav_r (show _ < g.1 by rw [G.1]; omega) zav_0) ?_
  refine zJ_aload_n dX8_init_0 rfl ?_
  refine zJ_objInit lo_X8_3 (Nat.le_of_ble_eq_true rfl) (by omega) dX8_init_1 ?_
  refine zJ_aload_n dX8_init_4 rfl ?_
  refine zJ_sipush (v := nI 384) dX8_init_5 rfl ?_
  refine zN_arr (kc := 4) (ks := 198) (N := 384) G rfl (fun _ => rfl) (by omega) rfl (by omega) dX8_init_8 (fun I1 g1 G1 e1 f1 => ?_)
  refine zN_put G1 lr_X8_9 rfl rfl (by omega) (by omega) rfl rfl ⟨by omega, by omega, by omega⟩ dX8_init_10 (fun g2 G2 => ?_)
  refine zJ_aload_n dX8_init_13 rfl ?_
  refine zJ_bipush (v := nI 64) dX8_init_14 rfl ?_
  refine zN_arr (kc := 3) (ks := 134) (N := 64) G2 rfl (fun _ => rfl) (by omega) rfl (by omega) dX8_init_16 (fun I3 g3 G3 e3 f3 => ?_)
  refine zN_put G3 lr_X8_15 rfl rfl (by omega) (by omega) rfl rfl ⟨by omega, by omega, by omega⟩ dX8_init_18 (fun g4 G4 => ?_)
  refine zJ_aload_n dX8_init_21 rfl ?_
  refine zJ_bipush (v := nI 64) dX8_init_22 rfl ?_
  refine zN_arr (kc := 2) (ks := 70) (N := 64) G4 rfl (fun _ => rfl) (by omega) rfl (by omega) dX8_init_24 (fun I5 g5 G5 e5 f5 => ?_)
  refine zN_put G5 lr_X8_18 rfl rfl (by omega) (by omega) rfl rfl ⟨by omega, by omega, by omega⟩ dX8_init_26 (fun g6 G6 => ?_)
  refine zJ_aload_n dX8_init_29 rfl ?_
  refine zJ_bipush (v := nI 64) dX8_init_30 rfl ?_
  refine zN_arr (kc := 1) (ks := 6) (N := 64) G6 rfl (fun _ => rfl) (by omega) rfl (by omega) dX8_init_32 (fun I7 g7 G7 e7 f7 => ?_)
  refine zN_put G7 lr_X8_21 rfl rfl (by omega) (by omega) rfl rfl ⟨by omega, by omega, by omega⟩ dX8_init_34 (fun g8 G8 => ?_)
  refine zJ_aload_n dX8_init_37 rfl ?_
  refine zJ_bipush (v := nI 6) dX8_init_38 rfl ?_
  refine zN_arr (kc := 0) (ks := 0) (N := 6) G8 rfl (fun _ => rfl) (by omega) rfl (by omega) dX8_init_40 (fun I9 g9 G9 e9 f9 => ?_)
  refine zN_put G9 lr_X8_24 rfl rfl (by omega) (by omega) rfl rfl ⟨by omega, by omega, by omega⟩ dX8_init_42 (fun g10 G10 => ?_)
  refine zJ_vret rfl dX8_init_45 ?_
  exact ⟨rfl, _, _, rfl, pG_fin G10 (fun j b h => (by decide +kernel : ∀ j, j < 5 → zJ0 62 j ≠ none → j ∈ [4, 3, 2, 1, 0]) j (getD_lt h) (by rw [h]; exact fun y => by cases y)), (fun k hk => by rw [e9 k (by omega), e7 k (by omega), e5 k (by omega), e3 k (by omega), e1 k (by omega)]), trivial⟩
theorem i_X8_68 (hl : l.stackTraces = false) (hd : 2 ≤ d) {uc : List (Nat × List Nat)} (G : pG 69 ((68, []) :: uc) g) : zC l Xi mX8_init d 5 582 [.ref 68] (I, g) (fun r h' => r = .inl none ∧ ∃ J g', h' = (J, g') ∧ pG 74 uc g' ∧ (∀ k, k < 68 ∨ 74 ≤ k → J k = I k) ∧ True) := by
  refine zC_of hl rfl rfl rfl (Nat.le_of_ble_eq_true rfl) (zav_r (show _ < g.1 by rw [G.1]; omega) zav_0) ?_
  refine zJ_aload_n dX8_init_0 rfl ?_
  refine zJ_objInit lo_X8_3 (Nat.le_of_ble_eq_true rfl) (by omega) dX8_init_1 ?_
  refine zJ_aload_n dX8_init_4 rfl ?_
  refine zJ_sipush (v := nI 384) dX8_init_5 rfl ?_
  refine zN_arr (kc := 4) (ks := 198) (N := 384) G rfl (fun _ => rfl) (by omega) rfl (by omega) dX8_init_8 (fun I1 g1 G1 e1 f1 => ?_)
  refine zN_put G1 lr_X8_9 rfl rfl (by omega) (by omega) rfl rfl ⟨by omega, by omega, by omega⟩ dX8_init_10 (fun g2 G2 => ?_)
  refine zJ_aload_n dX8_init_13 rfl ?_
  refine zJ_bipush (v := nI 64) dX8_init_14 rfl ?_
  refine zN_arr (kc := 3) (ks := 134) (N := 64) G2 rfl (fun _ => rfl) (by omega) rfl (by omega) dX8_init_16 (fun I3 g3 G3 e3 f3 => ?_)
  refine zN_put G3 lr_X8_15 rfl rfl (by omega) (by omega) rfl rfl ⟨by omega, by omega, by omega⟩ dX8_init_18 (fun g4 G4 => ?_)
  refine zJ_aload_n dX8_init_21 rfl ?_
  refine zJ_bipush (v := nI 64) dX8_init_22 rfl ?_
  refine zN_arr (kc := 2) (ks := 70) (N := 64) G4 rfl (fun _ => rfl) (by omega) rfl (by omega) dX8_init_24 (fun I5 g5 G5 e5 f5 => ?_)
  refine zN_put G5 lr_X8_18 rfl rfl (by omega) (by omega) rfl rfl ⟨by omega, by omega, by omega⟩ dX8_init_26 (fun g6 G6 => ?_)
  refine zJ_aload_n dX8_init_29 rfl ?_
  refine zJ_bipush (v := nI 64) dX8_init_30 rfl ?_
  refine zN_arr (kc := 1) (ks := 6) (N := 64) G6 rfl (fun _ => rfl) (by omega) rfl (by omega) dX8_init_32 (fun I7 g7 G7 e7 f7 => ?_)
  refine zN_put G7 lr_X8_21 rfl rfl (by omega) (by omega) rfl rfl ⟨by omega, by omega, by omega⟩ dX8_init_34 (fun g8 G8 => ?_)
  refine zJ_aload_n dX8_init_37 rfl ?_
  refine zJ_bipush (v := nI 6) dX8_init_38 rfl ?_
  refine zN_arr (kc := 0) (ks := 0) (N := 6) G8 rfl (fun _ => rfl) (by omega) rfl (by omega) dX8_init_40 (fun I9 g9 G9 e9 f9 => ?_)
  refine zN_put G9 lr_X8_24 rfl rfl (by omega) (by omega) rfl rfl ⟨by omega, by omega, by omega⟩ dX8_init_42 (fun g10 G10 => ?_)
  refine zJ_vret rfl dX8_init_45 ?_
  exact ⟨rfl, _, _, rfl, pG_fin G10 (fun j b h => (by decide +kernel : ∀ j, j < 5 → zJ0 68 j ≠ none → j ∈ [4, 3, 2, 1, 0]) j (getD_lt h) (by rw [h]; exact fun y => by cases y)), (fun k hk => by rw [e9 k (by omega), e7 k (by omega), e5 k (by omega), e3 k (by omega), e1 k (by omega)]), trivial⟩
end ZCtor
