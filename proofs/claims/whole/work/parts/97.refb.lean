/-! ===== the reference: the law's price ===== -/
section ZRefB
variable {l : Launch} {Xi : zXi} {d : Nat} {I : zI} {g : zG}
theorem i_dm1 (x : Int32) : x / -1 = -x := Int32.toBitVec_inj.mp (by rw [Int32.toBitVec_div, Int32.toBitVec_neg, Int32.toBitVec_neg, show (1 : Int32).toBitVec = 1#32 by decide]; exact BitVec.eq_of_toInt_eq (by rw [BitVec.toInt_sdiv, show (-1#32).toInt = -1 by decide, Int.tdiv_neg, Int.tdiv_one, BitVec.toInt_neg]))
theorem i_rm1 (x : Int32) : x - x / -1 * -1 = 0 := by
  rw [i_dm1, Int32.mul_neg, Int32.mul_one, Int32.neg_neg, Int32.sub_self]
theorem k_by (hl : l.stackTraces = false) (hd : 2 ≤ d) {j : Nat} {x y : Int32} (hj : j < 7) : zD l Xi mX13_by d [.int (nI (2 + j)), .int x, .int y] I g (some (.int (deed j x y))) I := by
  refine zC_of hl rfl rfl rfl (Nat.le_of_ble_eq_true rfl) (zav_i (zav_i (zav_i zav_0))) ?_
  have hj7 : j = 0 ∨ j = 1 ∨ j = 2 ∨ j = 3 ∨ j = 4 ∨ j = 5 ∨ j = 6 := by omega
  rcases hj7 with rfl | rfl | rfl | rfl | rfl | rfl | rfl
  · skip
    refine zJ_iload_n dX13_by_0 rfl ?_
    refine zJ_tabIn 40 dX13_by_1 (by decide) (by decide) rfl (by decide) ?_
    refine zJ_iload_n dX13_by_40 rfl ?_
    refine zJ_iload_n dX13_by_41 rfl ?_
    refine zJ_iadd dX13_by_42 ?_
    refine zJ_iret rfl dX13_by_43 ?_
    exact ⟨rfl, rfl⟩
  · skip
    refine zJ_iload_n dX13_by_0 rfl ?_
    refine zJ_tabIn 44 dX13_by_1 (by decide) (by decide) rfl (by decide) ?_
    refine zJ_iload_n dX13_by_44 rfl ?_
    refine zJ_iload_n dX13_by_45 rfl ?_
    refine zJ_isub dX13_by_46 ?_
    refine zJ_iret rfl dX13_by_47 ?_
    exact ⟨rfl, rfl⟩
  · skip
    refine zJ_iload_n dX13_by_0 rfl ?_
    refine zJ_tabIn 48 dX13_by_1 (by decide) (by decide) rfl (by decide) ?_
    refine zJ_iload_n dX13_by_48 rfl ?_
    refine zJ_iload_n dX13_by_49 rfl ?_
    refine zJ_imul dX13_by_50 ?_
    refine zJ_iret rfl dX13_by_51 ?_
    exact ⟨rfl, rfl⟩
  · skip
    refine zJ_iload_n dX13_by_0 rfl ?_
    refine zJ_tabIn 52 dX13_by_1 (by decide) (by decide) rfl (by decide) ?_
    refine zJ_iload_n dX13_by_52 rfl ?_
    refine zJ_if_ne 60 dX13_by_53 (by decide) (fun c53 => ?_) (fun c53 => ?_)
    · skip
      refine zJ_iload_n dX13_by_60 rfl ?_
      refine zJ_iconst (v := -1) dX13_by_61 rfl ?_
      refine zJ_icmp_ne 70 dX13_by_62 (by decide) (fun c62 => ?_) (fun c62 => ?_)
      · skip
        refine zJ_iload_n dX13_by_70 rfl ?_
        refine zJ_iload_n dX13_by_71 rfl ?_
        refine zJ_idiv dX13_by_72 c53 ?_
        refine zJ_iret rfl dX13_by_73 ?_
        exact ⟨by simp [deed, c53], rfl⟩
      · skip
        refine zJ_iload_n dX13_by_65 rfl ?_
        refine zJ_ineg dX13_by_66 ?_
        refine zJ_goto 73 dX13_by_67 (by decide) ?_
        refine zJ_iret rfl dX13_by_73 ?_
        rw [c62]
        exact ⟨by simp [deed, i_dm1], rfl⟩
    · skip
      refine zJ_iconst (v := nI 0) dX13_by_56 rfl ?_
      refine zJ_goto 73 dX13_by_57 (by decide) ?_
      refine zJ_iret rfl dX13_by_73 ?_
      exact ⟨by rw [c53]; rfl, rfl⟩
  · skip
    refine zJ_iload_n dX13_by_0 rfl ?_
    refine zJ_tabIn 74 dX13_by_1 (by decide) (by decide) rfl (by decide) ?_
    refine zJ_iload_n dX13_by_74 rfl ?_
    refine zJ_if_eq 83 dX13_by_75 (by decide) (fun c75 => ?_) (fun c75 => ?_)
    · skip
      refine zJ_iconst (v := nI 0) dX13_by_83 rfl ?_
      refine zJ_goto 90 dX13_by_84 (by decide) ?_
      refine zJ_iret rfl dX13_by_90 ?_
      exact ⟨by rw [c75]; rfl, rfl⟩
    · skip
      refine zJ_iload_n dX13_by_78 rfl ?_
      refine zJ_iconst (v := -1) dX13_by_79 rfl ?_
      refine zJ_icmp_ne 87 dX13_by_80 (by decide) (fun c80 => ?_) (fun c80 => ?_)
      · skip
        refine zJ_iload_n dX13_by_87 rfl ?_
        refine zJ_iload_n dX13_by_88 rfl ?_
        refine zJ_irem dX13_by_89 c75 ?_
        refine zJ_iret rfl dX13_by_90 ?_
        exact ⟨by simp [deed, c75], rfl⟩
      · skip
        refine zJ_iconst (v := nI 0) dX13_by_83 rfl ?_
        refine zJ_goto 90 dX13_by_84 (by decide) ?_
        refine zJ_iret rfl dX13_by_90 ?_
        rw [c80]
        refine ⟨congrArg (fun z => (Sum.inl (some (Value.int z)) : zR)) ?_, rfl⟩
        show nI 0 = if (-1 : Int32) = 0 then 0 else x - x / -1 * -1
        rw [if_neg (by decide), i_rm1]; rfl
  · skip
    refine zJ_iload_n dX13_by_0 rfl ?_
    refine zJ_tabIn 91 dX13_by_1 (by decide) (by decide) rfl (by decide) ?_
    refine zJ_iload_n dX13_by_91 rfl ?_
    refine zJ_iload_n dX13_by_92 rfl ?_
    refine zP_callSi [_, _] _ ls_X13_259 (k_less (d := d - 1) hl (by omega)) rfl (by omega) (Nat.le_of_ble_eq_true rfl) rfl dX13_by_93 ?_
    refine zJ_iret rfl dX13_by_96 ?_
    refine ⟨congrArg (fun z => (Sum.inl (some (Value.int z)) : zR)) ?_, rfl⟩
    show lesI x y = if y ≤ x then y else x
    unfold lesI
    by_cases h : x < y
    · rw [if_pos h, if_neg (Int32.not_le.mpr h)]
    · rw [if_neg h, if_pos (Int32.not_lt.mp h)]
  · skip
    refine zJ_iload_n dX13_by_0 rfl ?_
    refine zJ_tabOut 97 dX13_by_1 (by decide) (by decide) ?_
    refine zJ_iload_n dX13_by_97 rfl ?_
    refine zJ_iload_n dX13_by_98 rfl ?_
    refine zP_callSi [_, _] _ ls_X13_262 (k_more (d := d - 1) hl (by omega)) rfl (by omega) (Nat.le_of_ble_eq_true rfl) rfl dX13_by_99 ?_
    refine zJ_iret rfl dX13_by_102 ?_
    exact ⟨rfl, rfl⟩
theorem clamp_eq {x : Int32} : lesI (nI 999) (morI (nI 1) x) = clampL x := by
  unfold lesI morI clampL
  by_cases h : x < nI 1
  · rw [if_pos h, if_neg (Int32.not_le.mpr h), if_neg (by decide)]
  · rw [if_neg h, if_pos (Int32.not_lt.mp h)]
    by_cases h2 : x ≤ nI 999
    · rw [if_pos h2, if_neg (Int32.not_lt.mpr h2)]
    · rw [if_neg h2, if_pos (Int32.not_le.mp h2)]
theorem stN {nm : Nat → Int32} {k : Nat} {s : Nat × (Nat → Int32)} (hk : k < 1000) (h : s.1 < 32) : stepL nm (nI k) s = (s.1 + 1, upd s.2 s.1 (nI k)) := by
  unfold stepL
  rw [if_pos (nI_lt (by omega) (by omega)), if_pos h, if_pos (nI_lt (by omega) (by omega))]
theorem stK {nm : Nat → Int32} {k : Nat} {s : Nat × (Nat → Int32)} (hk : k < 8) (h : s.1 < 32) : stepL nm (nI (1000 + k)) s = (s.1 + 1, upd s.2 s.1 (nm k)) := by
  unfold stepL
  rw [if_pos (nI_lt (by omega) (by omega)), if_pos h, if_neg (nI_nlt (by omega) (by omega)), pk_sub (by omega), Nat.add_sub_cancel_left, nI_clamp (by omega)]
theorem stD {nm : Nat → Int32} {j : Nat} {s : Nat × (Nat → Int32)} (hj : j < 7) (h : 2 ≤ s.1) : stepL nm (nI (2000 + j)) s = (s.1 - 1, upd s.2 (s.1 - 2) (deed j (s.2 (s.1 - 2)) (s.2 (s.1 - 1)))) := by
  unfold stepL
  rw [if_neg (nI_nlt (by omega) (by omega)), if_neg (by omega), pk_sub (by omega), Nat.add_sub_cancel_left, nI_clamp (by omega)]
theorem lw_first {nm wt : Nat → Int32} : (evalL nm zLW wt 15).2 0 = nI 1 + (nm 0 + nm 1 * (nm 3 + nI 3)) * (nI 10 - nm 2) / nI 10 := by
  have e0 : evalL nm zLW wt 0 = (0, wt) := rfl
  obtain ⟨f1, hf1⟩ : ∃ f, f = upd wt 0 (nI 1) := ⟨_, rfl⟩
  have e1 : evalL nm zLW wt 1 = (1, f1) := by rw [evalL_succ, e0, show zLW 0 = nI 1 from rfl, hf1]; exact stN (k := 1) (by decide) (Nat.le_of_ble_eq_true rfl)
  have v1_0 : f1 0 = nI 1 := by rw [hf1, upd_at]
  obtain ⟨f2, hf2⟩ : ∃ f, f = upd f1 1 (nm 0) := ⟨_, rfl⟩
  have e2 : evalL nm zLW wt 2 = (2, f2) := by rw [evalL_succ, e1, show zLW 1 = nI (1000 + 0) from rfl, hf2]; exact stK (k := 0) (by decide) (Nat.le_of_ble_eq_true rfl)
  have v2_0 : f2 0 = nI 1 := by rw [hf2, upd_ne (by decide), v1_0]
  have v2_1 : f2 1 = nm 0 := by rw [hf2, upd_at]
  obtain ⟨f3, hf3⟩ : ∃ f, f = upd f2 2 (nm 1) := ⟨_, rfl⟩
  have e3 : evalL nm zLW wt 3 = (3, f3) := by rw [evalL_succ, e2, show zLW 2 = nI (1000 + 1) from rfl, hf3]; exact stK (k := 1) (by decide) (Nat.le_of_ble_eq_true rfl)
  have v3_0 : f3 0 = nI 1 := by rw [hf3, upd_ne (by decide), v2_0]
  have v3_1 : f3 1 = nm 0 := by rw [hf3, upd_ne (by decide), v2_1]
  have v3_2 : f3 2 = nm 1 := by rw [hf3, upd_at]
  obtain ⟨f4, hf4⟩ : ∃ f, f = upd f3 3 (nm 3) := ⟨_, rfl⟩
  have e4 : evalL nm zLW wt 4 = (4, f4) := by rw [evalL_succ, e3, show zLW 3 = nI (1000 + 3) from rfl, hf4]; exact stK (k := 3) (by decide) (Nat.le_of_ble_eq_true rfl)
  have v4_0 : f4 0 = nI 1 := by rw [hf4, upd_ne (by decide), v3_0]
  have v4_1 : f4 1 = nm 0 := by rw [hf4, upd_ne (by decide), v3_1]
  have v4_2 : f4 2 = nm 1 := by rw [hf4, upd_ne (by decide), v3_2]
  have v4_3 : f4 3 = nm 3 := by rw [hf4, upd_at]
  obtain ⟨f5, hf5⟩ : ∃ f, f = upd f4 4 (nI 3) := ⟨_, rfl⟩
  have e5 : evalL nm zLW wt 5 = (5, f5) := by rw [evalL_succ, e4, show zLW 4 = nI 3 from rfl, hf5]; exact stN (k := 3) (by decide) (Nat.le_of_ble_eq_true rfl)
  have v5_0 : f5 0 = nI 1 := by rw [hf5, upd_ne (by decide), v4_0]
  have v5_1 : f5 1 = nm 0 := by rw [hf5, upd_ne (by decide), v4_1]
  have v5_2 : f5 2 = nm 1 := by rw [hf5, upd_ne (by decide), v4_2]
  have v5_3 : f5 3 = nm 3 := by rw [hf5, upd_ne (by decide), v4_3]
  have v5_4 : f5 4 = nI 3 := by rw [hf5, upd_at]
  obtain ⟨f6, hf6⟩ : ∃ f, f = upd f5 3 (deed 0 (f5 3) (f5 4)) := ⟨_, rfl⟩
  have e6 : evalL nm zLW wt 6 = (4, f6) := by rw [evalL_succ, e5, show zLW 5 = nI (2000 + 0) from rfl, hf6]; exact stD (j := 0) (by decide) (Nat.le_of_ble_eq_true rfl)
  have v6_0 : f6 0 = nI 1 := by rw [hf6, upd_ne (by decide), v5_0]
  have v6_1 : f6 1 = nm 0 := by rw [hf6, upd_ne (by decide), v5_1]
  have v6_2 : f6 2 = nm 1 := by rw [hf6, upd_ne (by decide), v5_2]
  have v6_3 : f6 3 = nm 3 + nI 3 := by rw [hf6, upd_at, v5_3, v5_4]; rfl
  obtain ⟨f7, hf7⟩ : ∃ f, f = upd f6 2 (deed 2 (f6 2) (f6 3)) := ⟨_, rfl⟩
  have e7 : evalL nm zLW wt 7 = (3, f7) := by rw [evalL_succ, e6, show zLW 6 = nI (2000 + 2) from rfl, hf7]; exact stD (j := 2) (by decide) (Nat.le_of_ble_eq_true rfl)
  have v7_0 : f7 0 = nI 1 := by rw [hf7, upd_ne (by decide), v6_0]
  have v7_1 : f7 1 = nm 0 := by rw [hf7, upd_ne (by decide), v6_1]
  have v7_2 : f7 2 = nm 1 * (nm 3 + nI 3) := by rw [hf7, upd_at, v6_2, v6_3]; rfl
  obtain ⟨f8, hf8⟩ : ∃ f, f = upd f7 1 (deed 0 (f7 1) (f7 2)) := ⟨_, rfl⟩
  have e8 : evalL nm zLW wt 8 = (2, f8) := by rw [evalL_succ, e7, show zLW 7 = nI (2000 + 0) from rfl, hf8]; exact stD (j := 0) (by decide) (Nat.le_of_ble_eq_true rfl)
  have v8_0 : f8 0 = nI 1 := by rw [hf8, upd_ne (by decide), v7_0]
  have v8_1 : f8 1 = nm 0 + (nm 1 * (nm 3 + nI 3)) := by rw [hf8, upd_at, v7_1, v7_2]; rfl
  obtain ⟨f9, hf9⟩ : ∃ f, f = upd f8 2 (nI 10) := ⟨_, rfl⟩
  have e9 : evalL nm zLW wt 9 = (3, f9) := by rw [evalL_succ, e8, show zLW 8 = nI 10 from rfl, hf9]; exact stN (k := 10) (by decide) (Nat.le_of_ble_eq_true rfl)
  have v9_0 : f9 0 = nI 1 := by rw [hf9, upd_ne (by decide), v8_0]
  have v9_1 : f9 1 = nm 0 + (nm 1 * (nm 3 + nI 3)) := by rw [hf9, upd_ne (by decide), v8_1]
  have v9_2 : f9 2 = nI 10 := by rw [hf9, upd_at]
  obtain ⟨f10, hf10⟩ : ∃ f, f = upd f9 3 (nm 2) := ⟨_, rfl⟩
  have e10 : evalL nm zLW wt 10 = (4, f10) := by rw [evalL_succ, e9, show zLW 9 = nI (1000 + 2) from rfl, hf10]; exact stK (k := 2) (by decide) (Nat.le_of_ble_eq_true rfl)
  have v10_0 : f10 0 = nI 1 := by rw [hf10, upd_ne (by decide), v9_0]
  have v10_1 : f10 1 = nm 0 + (nm 1 * (nm 3 + nI 3)) := by rw [hf10, upd_ne (by decide), v9_1]
  have v10_2 : f10 2 = nI 10 := by rw [hf10, upd_ne (by decide), v9_2]
  have v10_3 : f10 3 = nm 2 := by rw [hf10, upd_at]
  obtain ⟨f11, hf11⟩ : ∃ f, f = upd f10 2 (deed 1 (f10 2) (f10 3)) := ⟨_, rfl⟩
  have e11 : evalL nm zLW wt 11 = (3, f11) := by rw [evalL_succ, e10, show zLW 10 = nI (2000 + 1) from rfl, hf11]; exact stD (j := 1) (by decide) (Nat.le_of_ble_eq_true rfl)
  have v11_0 : f11 0 = nI 1 := by rw [hf11, upd_ne (by decide), v10_0]
  have v11_1 : f11 1 = nm 0 + (nm 1 * (nm 3 + nI 3)) := by rw [hf11, upd_ne (by decide), v10_1]
  have v11_2 : f11 2 = nI 10 - nm 2 := by rw [hf11, upd_at, v10_2, v10_3]; rfl
  obtain ⟨f12, hf12⟩ : ∃ f, f = upd f11 1 (deed 2 (f11 1) (f11 2)) := ⟨_, rfl⟩
  have e12 : evalL nm zLW wt 12 = (2, f12) := by rw [evalL_succ, e11, show zLW 11 = nI (2000 + 2) from rfl, hf12]; exact stD (j := 2) (by decide) (Nat.le_of_ble_eq_true rfl)
  have v12_0 : f12 0 = nI 1 := by rw [hf12, upd_ne (by decide), v11_0]
  have v12_1 : f12 1 = (nm 0 + (nm 1 * (nm 3 + nI 3))) * (nI 10 - nm 2) := by rw [hf12, upd_at, v11_1, v11_2]; rfl
  obtain ⟨f13, hf13⟩ : ∃ f, f = upd f12 2 (nI 10) := ⟨_, rfl⟩
  have e13 : evalL nm zLW wt 13 = (3, f13) := by rw [evalL_succ, e12, show zLW 12 = nI 10 from rfl, hf13]; exact stN (k := 10) (by decide) (Nat.le_of_ble_eq_true rfl)
  have v13_0 : f13 0 = nI 1 := by rw [hf13, upd_ne (by decide), v12_0]
  have v13_1 : f13 1 = (nm 0 + (nm 1 * (nm 3 + nI 3))) * (nI 10 - nm 2) := by rw [hf13, upd_ne (by decide), v12_1]
  have v13_2 : f13 2 = nI 10 := by rw [hf13, upd_at]
  obtain ⟨f14, hf14⟩ : ∃ f, f = upd f13 1 (deed 3 (f13 1) (f13 2)) := ⟨_, rfl⟩
  have e14 : evalL nm zLW wt 14 = (2, f14) := by rw [evalL_succ, e13, show zLW 13 = nI (2000 + 3) from rfl, hf14]; exact stD (j := 3) (by decide) (Nat.le_of_ble_eq_true rfl)
  have v14_0 : f14 0 = nI 1 := by rw [hf14, upd_ne (by decide), v13_0]
  have v14_1 : f14 1 = ((nm 0 + (nm 1 * (nm 3 + nI 3))) * (nI 10 - nm 2)) / nI 10 := by rw [hf14, upd_at, v13_1, v13_2]; simp [deed, show ¬ (nI 10 = 0) by decide]
  obtain ⟨f15, hf15⟩ : ∃ f, f = upd f14 0 (deed 0 (f14 0) (f14 1)) := ⟨_, rfl⟩
  have e15 : evalL nm zLW wt 15 = (1, f15) := by rw [evalL_succ, e14, show zLW 14 = nI (2000 + 0) from rfl, hf15]; exact stD (j := 0) (by decide) (Nat.le_of_ble_eq_true rfl)
  have v15_0 : f15 0 = nI 1 + (((nm 0 + (nm 1 * (nm 3 + nI 3))) * (nI 10 - nm 2)) / nI 10) := by rw [hf15, upd_at, v14_0, v14_1]; rfl
  rw [e15]; exact v15_0
theorem evalL_dp {nm cs wt : Nat → Int32} {len : Nat} {dp : Nat → Nat} (h0 : dp 0 = 0) (h : ∀ i, i < len → codeOk (cs i) ∧ (cs i < nI 2000 → dp i < 32 ∧ dp (i + 1) = dp i + 1) ∧ (¬ cs i < nI 2000 → 2 ≤ dp i ∧ dp (i + 1) = dp i - 1)) : ∀ i, i ≤ len → (evalL nm cs wt i).1 = dp i
  | 0, _ => h0.symm
  | i + 1, hi => by
    have ih := evalL_dp (nm := nm) (wt := wt) h0 h i (by omega)
    obtain ⟨-, h2, h3⟩ := h i (by omega)
    rw [evalL_succ]
    unfold stepL
    rw [ih]
    by_cases z : cs i < nI 2000
    · rw [if_pos z, if_pos (h2 z).1, (h2 z).2]
    · rw [if_neg z, if_neg (by have := (h3 z).1; omega), (h3 z).2]
theorem nI_decr {k : Nat} : nI (k + 1) + Int32.ofInt (-1) = nI k := by
  rw [← nI_1, Int32.add_assoc, show (1 : Int32) + Int32.ofInt (-1) = 0 from rfl, Int32.add_zero]
set_option maxHeartbeats 1000000 in
theorem k_byLaw (hl : l.stackTraces = false) (hd : 3 ≤ d) (hs : zSt g) {b : zWo} (hlw : lawOk (bcs b) (bln b)) (hL : rL I b) {nm : Nat → Int32} (hnm : ∀ k, k < 8 → I 451 k = nm k) : zEi l Xi mX13_byLaw d [.ref 74] I g (fun v J => v = lawV b nm ∧ ∀ a, a ≠ 450 → J a = I a) := by
  refine zC_of hl rfl rfl rfl (Nat.le_of_ble_eq_true rfl) (zav_r (zSt_ob hs 74 13 rfl).1 zav_0) ?_
  obtain ⟨h150, dp, d0, d1, hdp⟩ := hlw
  have hlw : lawOk (bcs b) (bln b) := ⟨h150, dp, d0, d1, hdp⟩
  obtain ⟨x0, hx0⟩ : ∃ x, x = nI 1 + (I 451 0 + I 451 1 * (I 451 3 + nI 3)) * (nI 10 - I 451 2) / nI 10 := ⟨_, rfl⟩
  have r74 : ∀ f, va_up I 450 f 74 = I 74 := fun f => va_up_row (by decide)
  have r451 : ∀ f, va_up I 450 f 451 = I 451 := fun f => va_up_row (by decide)
  have htop : ∀ (f : Nat → Int32), clampL (f 0) = lawV b nm → zJ l Xi mX13_byLaw d 0 0 156 [some (.ref 74), none, none] [] (va_up I 450 f, g) (fun r' h' => ∃ x I', r' = .inl (some (.int x)) ∧ h' = (I', g) ∧ x = lawV b nm ∧ ∀ a, a ≠ 450 → I' a = I a) := by
    intro f hf
    refine zJ_sipush (v := nI 999) dX13_byLaw_156 rfl ?_
    refine zJ_iconst (v := nI 1) dX13_byLaw_159 rfl ?_
    refine zJ_aload_n dX13_byLaw_160 rfl ?_
    refine zP_getr lf_X13_61 (zSt_ob hs 74 13 rfl) rfl (zSt_rf hs 74 26 450 rfl) dX13_byLaw_161 ?_
    refine zJ_iconst (v := nI 0) dX13_byLaw_164 rfl ?_
    refine zP_iald (zSt_ar hs 450 160 rfl) (by first | assumption | with_reducible exact vp_in_nI (by omega) (by omega) | (simp (disch := omega) only [nI_add, pk_mul, pk_sub, pk_div, pk_rem, nI_clamp]; with_reducible exact vp_in_nI (by omega) (by omega))) dX13_byLaw_165 ?_
    rw [show (nI 0).toNatClampNeg = 0 from rfl, va_up_same]
    refine zP_callSi [_, _] _ ls_X13_262 (k_more (d := d - 1) hl (by omega)) rfl (by omega) (Nat.le_of_ble_eq_true rfl) rfl dX13_byLaw_166 ?_
    refine zP_callSi [_, _] _ ls_X13_259 (k_less (d := d - 1) hl (by omega)) rfl (by omega) (Nat.le_of_ble_eq_true rfl) rfl dX13_byLaw_169 ?_
    refine zJ_iret rfl dX13_byLaw_172 ?_
    exact ⟨_, _, rfl, rfl, by rw [clamp_eq]; exact hf, fun a ha => va_up_row ha⟩
  have hstart : zJ l Xi mX13_byLaw d 0 0 47 [some (.ref 74), some (.int (nI 0)), some (.int (nI 0))] [] (va_up I 450 (upd (I 450) 0 x0), g) (fun r' h' => ∃ x I', r' = .inl (some (.int x)) ∧ h' = (I', g) ∧ x = lawV b nm ∧ ∀ a, a ≠ 450 → I' a = I a) := by
    obtain ⟨wt, hwt⟩ : ∃ w, w = upd (I 450) 0 x0 := ⟨_, rfl⟩
    rw [← hwt]
    rcases hL with ⟨m0, hln, hcs⟩ | ⟨hln1, hln, hcs⟩
    · skip
      refine zJ_iload_n dX13_byLaw_47 rfl ?_
      refine zJ_aload_n dX13_byLaw_48 rfl ?_
      refine zP_geti lf_X13_212 (zSt_ob hs 74 13 rfl) rfl dX13_byLaw_49 ?_
      rw [r74, m0]
      refine zJ_icmp_ge 156 dX13_byLaw_52 (by decide) (fun _ => ?_) (fun c52 => absurd (nI_le (by omega) (by omega)) c52)
      refine zJ_back (zle_r (zle_n (zle_n zle_0))) rfl (htop wt ?_)
      unfold lawV
      congr 1
      rw [hln, evalL_cs (cs := zLW) hcs, lw_first, hwt, upd_at, hx0, hnm 0 (by decide), hnm 1 (by decide), hnm 2 (by decide), hnm 3 (by decide)]
    · skip
      have loop : ∀ m p, p + m = bln b → ∀ (t : Nat) (f : Nat → Int32), (evalL (I 451) (bcs b) wt p = (t, f)) → zJ l Xi mX13_byLaw d 0 0 47 [some (.ref 74), some (.int (nI t)), some (.int (nI p))] [] (va_up I 450 f, g) (fun r' h' => ∃ x I', r' = .inl (some (.int x)) ∧ h' = (I', g) ∧ x = lawV b nm ∧ ∀ a, a ≠ 450 → I' a = I a) := by
        intro m
        induction m with
        | zero =>
          intro p hp t f hI
          obtain rfl : p = bln b := by omega
          refine zJ_iload_n dX13_byLaw_47 rfl ?_
          refine zJ_aload_n dX13_byLaw_48 rfl ?_
          refine zP_geti lf_X13_212 (zSt_ob hs 74 13 rfl) rfl dX13_byLaw_49 ?_
          refine zJ_icmp_ge 156 dX13_byLaw_52 (by decide) (fun _ => ?_) (fun c52 => absurd (by rw [r74, hln]; exact nI_le (by omega) (by omega)) c52)
          refine zJ_back (zle_r (zle_n (zle_n zle_0))) rfl (htop f ?_)
          unfold lawV
          rw [← evalL_same hlw hnm (wt := wt), hI]
        | succ m ih =>
          intro p hp t f hI
          have ht : t = dp p := by have := evalL_dp (nm := I 451) (wt := wt) d0 hdp p (by omega); rw [hI] at this; exact this
          have hnext : evalL (I 451) (bcs b) wt (p + 1) = stepL (I 451) (bcs b p) (t, f) := by rw [← hI]; rfl
          obtain ⟨-, hd2, hd3⟩ := hdp p (by omega)
          have hcp := hcs p (by omega)
          have rp : ∀ f, va_up I 450 f (110 + 1 + p) = I (110 + 1 + p) := fun f => va_up_row (by omega)
          refine zJ_iload_n dX13_byLaw_47 rfl ?_
          refine zJ_aload_n dX13_byLaw_48 rfl ?_
          refine zP_geti lf_X13_212 (zSt_ob hs 74 13 rfl) rfl dX13_byLaw_49 ?_
          refine zJ_icmp_ge 156 dX13_byLaw_52 (by decide) (fun c52 => absurd c52 (by rw [r74, hln]; exact nI_ge (by omega) (by omega))) (fun _ => ?_)
          have hp150 : p < 160 := by omega
          rcases hcp with ⟨k, hk, e0, e1, ec⟩ | ⟨k, hk, e0, e1, ec⟩ | ⟨j, hj, e0, ec⟩
          · have hc : bcs b p < nI 2000 := by rw [ec]; exact nI_lt (by omega) (by omega)
            have ht32 := (hd2 hc).1
            have hst : evalL (I 451) (bcs b) wt (p + 1) = (t + 1, upd f t (nI k)) := by rw [hnext, ec]; exact stN hk (by show t < 32; omega)
            refine zJ_aload_n dX13_byLaw_55 rfl ?_
            refine zP_getr lf_X13_49 (zSt_ob hs 74 13 rfl) rfl (zSt_rf hs 74 22 110 rfl) dX13_byLaw_56 ?_
            refine zJ_iload_n dX13_byLaw_59 rfl ?_
            refine zP_rowK (k := p) (zSt_g110 hs) (by omega) (by decide) dX13_byLaw_60 ?_
            refine zJ_iconst (v := nI 0) dX13_byLaw_61 rfl ?_
            refine zP_iald (zGr_ar (zSt_g110 hs) (i := p) (by omega)) (by first | assumption | with_reducible exact vp_in_nI (by omega) (by omega) | (simp (disch := omega) only [nI_add, pk_mul, pk_sub, pk_div, pk_rem, nI_clamp]; with_reducible exact vp_in_nI (by omega) (by omega))) dX13_byLaw_62 ?_
            rw [show (nI 0).toNatClampNeg = 0 from rfl, rp, e0]
            refine zJ_iconst (v := nI 2) dX13_byLaw_63 rfl ?_
            refine zJ_icmp_ge 114 dX13_byLaw_64 (by decide) (fun c64 => absurd c64 (by decide)) (fun _ => ?_)
            refine zJ_aload_n dX13_byLaw_67 rfl ?_
            refine zP_getr lf_X13_61 (zSt_ob hs 74 13 rfl) rfl (zSt_rf hs 74 26 450 rfl) dX13_byLaw_68 ?_
            refine zJ_iload_n dX13_byLaw_71 rfl ?_
            refine zJ_aload_n dX13_byLaw_72 rfl ?_
            refine zP_getr lf_X13_49 (zSt_ob hs 74 13 rfl) rfl (zSt_rf hs 74 22 110 rfl) dX13_byLaw_73 ?_
            refine zJ_iload_n dX13_byLaw_76 rfl ?_
            refine zP_rowK (k := p) (zSt_g110 hs) (by omega) (by decide) dX13_byLaw_77 ?_
            refine zJ_iconst (v := nI 0) dX13_byLaw_78 rfl ?_
            refine zP_iald (zGr_ar (zSt_g110 hs) (i := p) (by omega)) (by first | assumption | with_reducible exact vp_in_nI (by omega) (by omega) | (simp (disch := omega) only [nI_add, pk_mul, pk_sub, pk_div, pk_rem, nI_clamp]; with_reducible exact vp_in_nI (by omega) (by omega))) dX13_byLaw_79 ?_
            rw [show (nI 0).toNatClampNeg = 0 from rfl, rp, e0]
            refine zJ_if_ne 94 dX13_byLaw_80 (by decide) (fun c80 => absurd rfl c80) (fun _ => ?_)
            refine zJ_aload_n dX13_byLaw_83 rfl ?_
            refine zP_getr lf_X13_49 (zSt_ob hs 74 13 rfl) rfl (zSt_rf hs 74 22 110 rfl) dX13_byLaw_84 ?_
            refine zJ_iload_n dX13_byLaw_87 rfl ?_
            refine zP_rowK (k := p) (zSt_g110 hs) (by omega) (by decide) dX13_byLaw_88 ?_
            refine zJ_iconst (v := nI 1) dX13_byLaw_89 rfl ?_
            refine zP_iald (zGr_ar (zSt_g110 hs) (i := p) (by omega)) (by first | assumption | with_reducible exact vp_in_nI (by omega) (by omega) | (simp (disch := omega) only [nI_add, pk_mul, pk_sub, pk_div, pk_rem, nI_clamp]; with_reducible exact vp_in_nI (by omega) (by omega))) dX13_byLaw_90 ?_
            refine zJ_goto 107 dX13_byLaw_91 (by decide) ?_
            rw [show (nI 1).toNatClampNeg = 1 from rfl, rp, e1]
            refine zP_iast (zSt_ar hs 450 160 rfl) (by first | assumption | with_reducible exact vp_in_nI (by omega) (by omega) | (simp (disch := omega) only [nI_add, pk_mul, pk_sub, pk_div, pk_rem, nI_clamp]; with_reducible exact vp_in_nI (by omega) (by omega))) dX13_byLaw_107 ?_
            refine zJ_iinc1 dX13_byLaw_108 rfl (by decide) ?_
            refine zJ_goto 150 dX13_byLaw_111 (by decide) ?_
            refine zJ_iinc1 dX13_byLaw_150 rfl (by decide) ?_
            refine zJ_goto 47 dX13_byLaw_153 (by decide) ?_
            refine zJ_back (zle_r (zle_r (zle_r zle_0))) ?_ (ih (p + 1) (by omega) (t + 1) (upd f t (nI k)) hst)
            rw [nI_clamp (by omega), zup_va]
          · have hc : bcs b p < nI 2000 := by rw [ec]; exact nI_lt (by omega) (by omega)
            have ht32 := (hd2 hc).1
            have hst : evalL (I 451) (bcs b) wt (p + 1) = (t + 1, upd f t (I 451 k)) := by rw [hnext, ec]; exact stK hk (by show t < 32; omega)
            refine zJ_aload_n dX13_byLaw_55 rfl ?_
            refine zP_getr lf_X13_49 (zSt_ob hs 74 13 rfl) rfl (zSt_rf hs 74 22 110 rfl) dX13_byLaw_56 ?_
            refine zJ_iload_n dX13_byLaw_59 rfl ?_
            refine zP_rowK (k := p) (zSt_g110 hs) (by omega) (by decide) dX13_byLaw_60 ?_
            refine zJ_iconst (v := nI 0) dX13_byLaw_61 rfl ?_
            refine zP_iald (zGr_ar (zSt_g110 hs) (i := p) (by omega)) (by first | assumption | with_reducible exact vp_in_nI (by omega) (by omega) | (simp (disch := omega) only [nI_add, pk_mul, pk_sub, pk_div, pk_rem, nI_clamp]; with_reducible exact vp_in_nI (by omega) (by omega))) dX13_byLaw_62 ?_
            rw [show (nI 0).toNatClampNeg = 0 from rfl, rp, e0]
            refine zJ_iconst (v := nI 2) dX13_byLaw_63 rfl ?_
            refine zJ_icmp_ge 114 dX13_byLaw_64 (by decide) (fun c64 => absurd c64 (by decide)) (fun _ => ?_)
            refine zJ_aload_n dX13_byLaw_67 rfl ?_
            refine zP_getr lf_X13_61 (zSt_ob hs 74 13 rfl) rfl (zSt_rf hs 74 26 450 rfl) dX13_byLaw_68 ?_
            refine zJ_iload_n dX13_byLaw_71 rfl ?_
            refine zJ_aload_n dX13_byLaw_72 rfl ?_
            refine zP_getr lf_X13_49 (zSt_ob hs 74 13 rfl) rfl (zSt_rf hs 74 22 110 rfl) dX13_byLaw_73 ?_
            refine zJ_iload_n dX13_byLaw_76 rfl ?_
            refine zP_rowK (k := p) (zSt_g110 hs) (by omega) (by decide) dX13_byLaw_77 ?_
            refine zJ_iconst (v := nI 0) dX13_byLaw_78 rfl ?_
            refine zP_iald (zGr_ar (zSt_g110 hs) (i := p) (by omega)) (by first | assumption | with_reducible exact vp_in_nI (by omega) (by omega) | (simp (disch := omega) only [nI_add, pk_mul, pk_sub, pk_div, pk_rem, nI_clamp]; with_reducible exact vp_in_nI (by omega) (by omega))) dX13_byLaw_79 ?_
            rw [show (nI 0).toNatClampNeg = 0 from rfl, rp, e0]
            refine zJ_if_ne 94 dX13_byLaw_80 (by decide) (fun _ => ?_) (fun c80 => absurd c80 (by decide))
            refine zJ_aload_n dX13_byLaw_94 rfl ?_
            refine zP_getr lf_X13_64 (zSt_ob hs 74 13 rfl) rfl (zSt_rf hs 74 27 451 rfl) dX13_byLaw_95 ?_
            refine zJ_aload_n dX13_byLaw_98 rfl ?_
            refine zP_getr lf_X13_49 (zSt_ob hs 74 13 rfl) rfl (zSt_rf hs 74 22 110 rfl) dX13_byLaw_99 ?_
            refine zJ_iload_n dX13_byLaw_102 rfl ?_
            refine zP_rowK (k := p) (zSt_g110 hs) (by omega) (by decide) dX13_byLaw_103 ?_
            refine zJ_iconst (v := nI 1) dX13_byLaw_104 rfl ?_
            refine zP_iald (zGr_ar (zSt_g110 hs) (i := p) (by omega)) (by first | assumption | with_reducible exact vp_in_nI (by omega) (by omega) | (simp (disch := omega) only [nI_add, pk_mul, pk_sub, pk_div, pk_rem, nI_clamp]; with_reducible exact vp_in_nI (by omega) (by omega))) dX13_byLaw_105 ?_
            rw [show (nI 1).toNatClampNeg = 1 from rfl, rp, e1]
            refine zP_iald (zSt_ar hs 451 8 rfl) (by first | assumption | with_reducible exact vp_in_nI (by omega) (by omega) | (simp (disch := omega) only [nI_add, pk_mul, pk_sub, pk_div, pk_rem, nI_clamp]; with_reducible exact vp_in_nI (by omega) (by omega))) dX13_byLaw_106 ?_
            rw [nI_clamp (by omega), r451]
            refine zP_iast (zSt_ar hs 450 160 rfl) (by first | assumption | with_reducible exact vp_in_nI (by omega) (by omega) | (simp (disch := omega) only [nI_add, pk_mul, pk_sub, pk_div, pk_rem, nI_clamp]; with_reducible exact vp_in_nI (by omega) (by omega))) dX13_byLaw_107 ?_
            refine zJ_iinc1 dX13_byLaw_108 rfl (by decide) ?_
            refine zJ_goto 150 dX13_byLaw_111 (by decide) ?_
            refine zJ_iinc1 dX13_byLaw_150 rfl (by decide) ?_
            refine zJ_goto 47 dX13_byLaw_153 (by decide) ?_
            refine zJ_back (zle_r (zle_r (zle_r zle_0))) ?_ (ih (p + 1) (by omega) (t + 1) (upd f t (I 451 k)) hst)
            rw [nI_clamp (by omega), zup_va]
          · have hc : ¬ bcs b p < nI 2000 := by rw [ec]; exact nI_nlt (by omega) (by omega)
            have ht2 := (hd3 hc).1
            have ht32 : t ≤ 32 := by have := evalL_top (nm := I 451) (cs := bcs b) (wt := wt) (n := p); rw [hI] at this; exact this
            have hst : evalL (I 451) (bcs b) wt (p + 1) = (t - 1, upd f (t - 2) (deed j (f (t - 2)) (f (t - 1)))) := by rw [hnext, ec]; exact stD hj (by show 2 ≤ t; omega)
            obtain ⟨t', rfl⟩ : ∃ t', t = t' + 2 := ⟨t - 2, by omega⟩
            refine zJ_aload_n dX13_byLaw_55 rfl ?_
            refine zP_getr lf_X13_49 (zSt_ob hs 74 13 rfl) rfl (zSt_rf hs 74 22 110 rfl) dX13_byLaw_56 ?_
            refine zJ_iload_n dX13_byLaw_59 rfl ?_
            refine zP_rowK (k := p) (zSt_g110 hs) (by omega) (by decide) dX13_byLaw_60 ?_
            refine zJ_iconst (v := nI 0) dX13_byLaw_61 rfl ?_
            refine zP_iald (zGr_ar (zSt_g110 hs) (i := p) (by omega)) (by first | assumption | with_reducible exact vp_in_nI (by omega) (by omega) | (simp (disch := omega) only [nI_add, pk_mul, pk_sub, pk_div, pk_rem, nI_clamp]; with_reducible exact vp_in_nI (by omega) (by omega))) dX13_byLaw_62 ?_
            rw [show (nI 0).toNatClampNeg = 0 from rfl, rp, e0]
            refine zJ_iconst (v := nI 2) dX13_byLaw_63 rfl ?_
            refine zJ_icmp_ge 114 dX13_byLaw_64 (by decide) (fun _ => ?_) (fun c64 => absurd (nI_leI (by omega) (by omega) |>.mpr (by omega)) c64)
            refine zJ_iinc dX13_byLaw_114 rfl (by decide) rfl ?_
            rw [nI_decr]
            refine zJ_aload_n dX13_byLaw_117 rfl ?_
            refine zP_getr lf_X13_61 (zSt_ob hs 74 13 rfl) rfl (zSt_rf hs 74 26 450 rfl) dX13_byLaw_118 ?_
            refine zJ_iload_n dX13_byLaw_121 rfl ?_
            refine zJ_iconst (v := nI 1) dX13_byLaw_122 rfl ?_
            refine zJ_isub dX13_byLaw_123 ?_
            rw [pk_sub (by omega), Nat.add_sub_cancel]
            refine zJ_aload_n dX13_byLaw_124 rfl ?_
            refine zP_getr lf_X13_49 (zSt_ob hs 74 13 rfl) rfl (zSt_rf hs 74 22 110 rfl) dX13_byLaw_125 ?_
            refine zJ_iload_n dX13_byLaw_128 rfl ?_
            refine zP_rowK (k := p) (zSt_g110 hs) (by omega) (by decide) dX13_byLaw_129 ?_
            refine zJ_iconst (v := nI 0) dX13_byLaw_130 rfl ?_
            refine zP_iald (zGr_ar (zSt_g110 hs) (i := p) (by omega)) (by first | assumption | with_reducible exact vp_in_nI (by omega) (by omega) | (simp (disch := omega) only [nI_add, pk_mul, pk_sub, pk_div, pk_rem, nI_clamp]; with_reducible exact vp_in_nI (by omega) (by omega))) dX13_byLaw_131 ?_
            rw [show (nI 0).toNatClampNeg = 0 from rfl, rp, e0]
            refine zJ_aload_n dX13_byLaw_132 rfl ?_
            refine zP_getr lf_X13_61 (zSt_ob hs 74 13 rfl) rfl (zSt_rf hs 74 26 450 rfl) dX13_byLaw_133 ?_
            refine zJ_iload_n dX13_byLaw_136 rfl ?_
            refine zJ_iconst (v := nI 1) dX13_byLaw_137 rfl ?_
            refine zJ_isub dX13_byLaw_138 ?_
            rw [pk_sub (by omega), Nat.add_sub_cancel]
            refine zP_iald (zSt_ar hs 450 160 rfl) (by first | assumption | with_reducible exact vp_in_nI (by omega) (by omega) | (simp (disch := omega) only [nI_add, pk_mul, pk_sub, pk_div, pk_rem, nI_clamp]; with_reducible exact vp_in_nI (by omega) (by omega))) dX13_byLaw_139 ?_
            rw [nI_clamp (by omega), va_up_same]
            refine zJ_aload_n dX13_byLaw_140 rfl ?_
            refine zP_getr lf_X13_61 (zSt_ob hs 74 13 rfl) rfl (zSt_rf hs 74 26 450 rfl) dX13_byLaw_141 ?_
            refine zJ_iload_n dX13_byLaw_144 rfl ?_
            refine zP_iald (zSt_ar hs 450 160 rfl) (by first | assumption | with_reducible exact vp_in_nI (by omega) (by omega) | (simp (disch := omega) only [nI_add, pk_mul, pk_sub, pk_div, pk_rem, nI_clamp]; with_reducible exact vp_in_nI (by omega) (by omega))) dX13_byLaw_145 ?_
            rw [nI_clamp (by omega), va_up_same]
            refine zP_callSi [_, _, _] _ ls_X13_265 (k_by (d := d - 1) hl (by omega) hj) rfl (by omega) (Nat.le_of_ble_eq_true rfl) rfl dX13_byLaw_146 ?_
            refine zP_iast (zSt_ar hs 450 160 rfl) (by first | assumption | with_reducible exact vp_in_nI (by omega) (by omega) | (simp (disch := omega) only [nI_add, pk_mul, pk_sub, pk_div, pk_rem, nI_clamp]; with_reducible exact vp_in_nI (by omega) (by omega))) dX13_byLaw_149 ?_
            refine zJ_iinc1 dX13_byLaw_150 rfl (by decide) ?_
            refine zJ_goto 47 dX13_byLaw_153 (by decide) ?_
            refine zJ_back (zle_r (zle_r (zle_r zle_0))) ?_ (ih (p + 1) (by omega) _ _ hst)
            rw [nI_clamp (by omega), zup_va]
            rfl
      exact loop (bln b) 0 (by omega) 0 wt rfl
  refine zJ_iconst (v := nI 0) dX13_byLaw_0 rfl ?_
  refine zJ_istore_m 1 dX13_byLaw_1 rfl (Nat.le_of_ble_eq_true rfl) (by decide) ?_
  refine zJ_aload_n dX13_byLaw_2 rfl ?_
  refine zP_getr lf_X13_61 (zSt_ob hs 74 13 rfl) rfl (zSt_rf hs 74 26 450 rfl) dX13_byLaw_3 ?_
  refine zJ_iconst (v := nI 0) dX13_byLaw_6 rfl ?_
  refine zJ_iconst (v := nI 1) dX13_byLaw_7 rfl ?_
  refine zJ_aload_n dX13_byLaw_8 rfl ?_
  refine zP_getr lf_X13_64 (zSt_ob hs 74 13 rfl) rfl (zSt_rf hs 74 27 451 rfl) dX13_byLaw_9 ?_
  refine zJ_iconst (v := nI 0) dX13_byLaw_12 rfl ?_
  refine zP_iald (zSt_ar hs 451 8 rfl) (by first | assumption | with_reducible exact vp_in_nI (by omega) (by omega) | (simp (disch := omega) only [nI_add, pk_mul, pk_sub, pk_div, pk_rem, nI_clamp]; with_reducible exact vp_in_nI (by omega) (by omega))) dX13_byLaw_13 ?_
  refine zJ_aload_n dX13_byLaw_14 rfl ?_
  refine zP_getr lf_X13_64 (zSt_ob hs 74 13 rfl) rfl (zSt_rf hs 74 27 451 rfl) dX13_byLaw_15 ?_
  refine zJ_iconst (v := nI 1) dX13_byLaw_18 rfl ?_
  refine zP_iald (zSt_ar hs 451 8 rfl) (by first | assumption | with_reducible exact vp_in_nI (by omega) (by omega) | (simp (disch := omega) only [nI_add, pk_mul, pk_sub, pk_div, pk_rem, nI_clamp]; with_reducible exact vp_in_nI (by omega) (by omega))) dX13_byLaw_19 ?_
  refine zJ_aload_n dX13_byLaw_20 rfl ?_
  refine zP_getr lf_X13_64 (zSt_ob hs 74 13 rfl) rfl (zSt_rf hs 74 27 451 rfl) dX13_byLaw_21 ?_
  refine zJ_iconst (v := nI 3) dX13_byLaw_24 rfl ?_
  refine zP_iald (zSt_ar hs 451 8 rfl) (by first | assumption | with_reducible exact vp_in_nI (by omega) (by omega) | (simp (disch := omega) only [nI_add, pk_mul, pk_sub, pk_div, pk_rem, nI_clamp]; with_reducible exact vp_in_nI (by omega) (by omega))) dX13_byLaw_25 ?_
  refine zJ_iconst (v := nI 3) dX13_byLaw_26 rfl ?_
  refine zJ_iadd dX13_byLaw_27 ?_
  refine zJ_imul dX13_byLaw_28 ?_
  refine zJ_iadd dX13_byLaw_29 ?_
  refine zJ_bipush (v := nI 10) dX13_byLaw_30 rfl ?_
  refine zJ_aload_n dX13_byLaw_32 rfl ?_
  refine zP_getr lf_X13_64 (zSt_ob hs 74 13 rfl) rfl (zSt_rf hs 74 27 451 rfl) dX13_byLaw_33 ?_
  refine zJ_iconst (v := nI 2) dX13_byLaw_36 rfl ?_
  refine zP_iald (zSt_ar hs 451 8 rfl) (by first | assumption | with_reducible exact vp_in_nI (by omega) (by omega) | (simp (disch := omega) only [nI_add, pk_mul, pk_sub, pk_div, pk_rem, nI_clamp]; with_reducible exact vp_in_nI (by omega) (by omega))) dX13_byLaw_37 ?_
  refine zJ_isub dX13_byLaw_38 ?_
  refine zJ_imul dX13_byLaw_39 ?_
  refine zJ_bipush (v := nI 10) dX13_byLaw_40 rfl ?_
  refine zJ_idiv dX13_byLaw_42 (by decide) ?_
  refine zJ_iadd dX13_byLaw_43 ?_
  simp (disch := omega) only [nI_clamp]
  rw [← hx0]
  refine zP_iast (zSt_ar hs 450 160 rfl) (by first | assumption | with_reducible exact vp_in_nI (by omega) (by omega) | (simp (disch := omega) only [nI_add, pk_mul, pk_sub, pk_div, pk_rem, nI_clamp]; with_reducible exact vp_in_nI (by omega) (by omega))) dX13_byLaw_44 ?_
  refine zJ_iconst (v := nI 0) dX13_byLaw_45 rfl ?_
  refine zJ_istore_m 2 dX13_byLaw_46 rfl (Nat.le_of_ble_eq_true rfl) (by decide) ?_
  exact zJ_back (zle_r (zle_r (zle_r zle_0))) rfl hstart
end ZRefB
