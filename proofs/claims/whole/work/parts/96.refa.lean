/-! ===== the reference: places, users, overs ===== -/
section ZRefA
variable {l : Launch} {Xi : zXi} {d : Nat} {I : zI} {g : zG}
theorem zP_rowK {M : zM} {kc ks pc : Nat} {Ls : List (Option Value)} {S : List Value} {post : zR → zH → Prop} {a N K k : Nat} (ha : zGr g a N K) (hk : k < N) (hN : N < 2 ^ 31) (hd : decode M.2.2.1 pc = .ok (.aaload, 1)) (kk : zJ l Xi M d kc ks (pc + 1) Ls (.ref (a + 1 + k) :: S) (I, g) post) : zJ l Xi M d kc ks pc Ls (.int (nI k) :: .ref a :: S) (I, g) post := zP_row ha (vp_in_nI hk (by omega)) hd (by rw [nI_clamp (by omega)]; exact kk)
theorem zGr_ar {a N K i : Nat} (h : zGr g a N K) (hi : i < N) : zAr g (a + 1 + i) K := (h.2.2 i hi).2
/-- the reference's board -/
def lpO (x y c : Int32) : Prop := (∃ k, k < 1000 ∧ x = nI 0 ∧ y = nI k ∧ c = nI k) ∨ (∃ k, k < 8 ∧ x = nI 1 ∧ y = nI k ∧ c = nI (1000 + k)) ∨ ∃ j, j < 7 ∧ x = nI (2 + j) ∧ c = nI (2000 + j)
def rL (I : zI) (b : zWo) : Prop := (I 74 20 = nI 0 ∧ bln b = 15 ∧ ∀ i, i < 15 → bcs b i = zLW i) ∨ (1 ≤ bln b ∧ I 74 20 = nI (bln b) ∧ ∀ i, i < bln b → lpO (I (110 + 1 + i) 0) (I (110 + 1 + i) 1) (bcs b i))
def rB (I : zI) (b : zWo) : Prop := bdOk b ∧ (I 78 0 = nI (bC b) ∧ I 78 1 = nI (bR b) ∧ I 78 2 = nI (bN b) ∧ I 78 3 = bgn b) ∧ (∀ p, p < 64 → I 81 p = nI (bwd b p)) ∧ (∀ n, n < bN b → I (89 + 1 + n) 1 = blm b n ∧ I (89 + 1 + n) 2 = nI (bpc b n)) ∧ (∀ n i, n < bN b → i < bpc b n → I (103 + 1 + n) i = nI (bpn b n i)) ∧ rL I b
def rRow (I : zI) (a : Nat) (b : zWo) (R : rwT) : Prop := (∀ k, k < 512 → I a k = R k) ∧ (∀ n, n < bN b → I a (512 + n) = R (512 + n)) ∧ I a 518 = R 518
theorem r_tin {a : Nat} {b : zWo} {R : rwT} (h : rRow I a b R) {n p : Nat} (hn : n < 6) (hp : p < 64) : tin (I a) n p = tin R n p := by unfold tin; rw [h.1 _ (by omega)]
theorem k_in (hl : l.stackTraces = false) (hd : 1 ≤ d) {x y z : Int32} : zD l Xi mX13_in d [.int x, .int y, .int z] I g (some (.int (if decide (¬ x < y ∧ x ≤ z) then 1 else 0))) I := by
  refine zC_of hl rfl rfl rfl (Nat.le_of_ble_eq_true rfl) (zav_i (zav_i (zav_i zav_0))) ?_
  refine zJ_iload_n dX13_in_0 rfl ?_
  refine zJ_iload_n dX13_in_1 rfl ?_
  refine zJ_icmp_lt 14 dX13_in_2 (by decide) (fun c2 => ?_) (fun c2 => ?_)
  · skip
    refine zJ_iconst (v := nI 0) dX13_in_14 rfl ?_
    refine zJ_zret rfl (by decide) dX13_in_15 ?_
    exact ⟨by simp [c2, nI0], rfl⟩
  · skip
    refine zJ_iload_n dX13_in_5 rfl ?_
    refine zJ_iload_n dX13_in_6 rfl ?_
    refine zJ_icmp_gt 14 dX13_in_7 (by decide) (fun c7 => ?_) (fun c7 => ?_)
    · skip
      refine zJ_iconst (v := nI 0) dX13_in_14 rfl ?_
      refine zJ_zret rfl (by decide) dX13_in_15 ?_
      exact ⟨by simp [c7, nI0], rfl⟩
    · skip
      refine zJ_iconst (v := nI 1) dX13_in_10 rfl ?_
      refine zJ_goto 15 dX13_in_11 (by decide) ?_
      refine zJ_zret rfl (by decide) dX13_in_15 ?_
      exact ⟨by simp [c2, c7, nI1], rfl⟩
def lesI (x y : Int32) : Int32 := if x < y then x else y
def morI (x y : Int32) : Int32 := if x ≤ y then y else x
theorem k_less (hl : l.stackTraces = false) (hd : 1 ≤ d) {x y : Int32} : zD l Xi mX13_less d [.int x, .int y] I g (some (.int (lesI x y))) I := by
  refine zC_of hl rfl rfl rfl (Nat.le_of_ble_eq_true rfl) (zav_i (zav_i zav_0)) ?_
  refine zJ_iload_n dX13_less_0 rfl ?_
  refine zJ_iload_n dX13_less_1 rfl ?_
  refine zJ_icmp_ge 9 dX13_less_2 (by decide) (fun c2 => ?_) (fun c2 => ?_)
  · skip
    refine zJ_iload_n dX13_less_9 rfl ?_
    refine zJ_iret rfl dX13_less_10 ?_
    exact ⟨by unfold lesI; rw [if_neg (Int32.not_lt.mpr c2)], rfl⟩
  · skip
    refine zJ_iload_n dX13_less_5 rfl ?_
    refine zJ_goto 10 dX13_less_6 (by decide) ?_
    refine zJ_iret rfl dX13_less_10 ?_
    exact ⟨by simp [lesI, c2], rfl⟩
theorem k_more (hl : l.stackTraces = false) (hd : 1 ≤ d) {x y : Int32} : zD l Xi mX13_more d [.int x, .int y] I g (some (.int (morI x y))) I := by
  refine zC_of hl rfl rfl rfl (Nat.le_of_ble_eq_true rfl) (zav_i (zav_i zav_0)) ?_
  refine zJ_iload_n dX13_more_0 rfl ?_
  refine zJ_iload_n dX13_more_1 rfl ?_
  refine zJ_icmp_le 9 dX13_more_2 (by decide) (fun c2 => ?_) (fun c2 => ?_)
  · skip
    refine zJ_iload_n dX13_more_9 rfl ?_
    refine zJ_iret rfl dX13_more_10 ?_
    exact ⟨by simp [morI, c2], rfl⟩
  · skip
    refine zJ_iload_n dX13_more_5 rfl ?_
    refine zJ_goto 10 dX13_more_6 (by decide) ?_
    refine zJ_iret rfl dX13_more_10 ?_
    exact ⟨by simp [morI, c2], rfl⟩
theorem k_treeOf (hl : l.stackTraces = false) (hd : 1 ≤ d) {n p : Nat} : zD l Xi mX13_treeOf d [.int (nI n), .int (nI p)] I g (some (.int (nI (n * 64 + p)))) I := by
  refine zC_of hl rfl rfl rfl (Nat.le_of_ble_eq_true rfl) (zav_i (zav_i zav_0)) ?_
  refine zJ_iconst (v := nI 0) dX13_treeOf_0 rfl ?_
  refine zJ_bipush (v := nI 64) dX13_treeOf_1 rfl ?_
  refine zJ_iload_n dX13_treeOf_3 rfl ?_
  refine zJ_imul dX13_treeOf_4 ?_
  refine zJ_iadd dX13_treeOf_5 ?_
  refine zJ_iload_n dX13_treeOf_6 rfl ?_
  refine zJ_iadd dX13_treeOf_7 ?_
  refine zJ_iret rfl dX13_treeOf_8 ?_
  exact ⟨by rw [pk_mul, nI_add, nI_add, Nat.zero_add, Nat.mul_comm], rfl⟩
theorem k_isIn (hl : l.stackTraces = false) (hd : 2 ≤ d) {a n p : Nat} (ha : zAr g a 519) (hn : n < 6) (hp : p < 64) : zD l Xi mX13_isIn d [.ref a, .int (nI n), .int (nI p)] I g (some (.int (if tin (I a) n p then 1 else 0))) I := by
  refine zC_of hl rfl rfl rfl (Nat.le_of_ble_eq_true rfl) (zav_r ha.1 (zav_i (zav_i zav_0))) ?_
  refine zJ_aload_n dX13_isIn_0 rfl ?_
  refine zJ_iload_n dX13_isIn_1 rfl ?_
  refine zJ_iload_n dX13_isIn_2 rfl ?_
  refine zP_callSi [_, _] _ ls_X13_284 (k_treeOf (d := d - 1) hl (by omega)) rfl (by omega) (Nat.le_of_ble_eq_true rfl) rfl dX13_isIn_3 ?_
  refine zP_iald ha (by first | assumption | with_reducible exact vp_in_nI (by omega) (by omega) | (simp (disch := omega) only [nI_add, pk_mul, pk_sub, pk_div, pk_rem, nI_clamp]; with_reducible exact vp_in_nI (by omega) (by omega))) dX13_isIn_6 ?_
  rw [nI_clamp (by omega)]
  refine zJ_iconst (v := -1) dX13_isIn_7 rfl ?_
  refine zJ_icmp_eq 15 dX13_isIn_8 (by decide) (fun c8 => ?_) (fun c8 => ?_)
  · skip
    refine zJ_iconst (v := nI 0) dX13_isIn_15 rfl ?_
    refine zJ_zret rfl (by decide) dX13_isIn_16 ?_
    exact ⟨by simp [tin, c8, nI0], rfl⟩
  · skip
    refine zJ_iconst (v := nI 1) dX13_isIn_11 rfl ?_
    refine zJ_goto 16 dX13_isIn_12 (by decide) ?_
    refine zJ_zret rfl (by decide) dX13_isIn_16 ?_
    exact ⟨by simp [tin, c8, nI1], rfl⟩
theorem k_isWithin (hl : l.stackTraces = false) (hd : 2 ≤ d) (hs : zSt g) {b : zWo} (hB : rB I b) {x y : Int32} : zD l Xi mX13_isWithin d [.ref 74, .int x, .int y] I g (some (.int (if decide (¬ x < nI 0 ∧ x ≤ nI (bC b - 1)) && decide (¬ y < nI 0 ∧ y ≤ nI (bR b - 1)) then 1 else 0))) I := by
  refine zC_of hl rfl rfl rfl (Nat.le_of_ble_eq_true rfl) (zav_r (zSt_ob hs 74 13 rfl).1 (zav_i (zav_i zav_0))) ?_
  have hC := hB.1.1
  have hR := hB.1.2.2.1
  have e0 : I 78 (nI 0).toNatClampNeg = nI (bC b) := by rw [nI_clamp (by omega)]; exact hB.2.1.1
  have e1 : I 78 (nI 1).toNatClampNeg = nI (bR b) := by rw [nI_clamp (by omega)]; exact hB.2.1.2.1
  refine zJ_iload_n dX13_isWithin_0 rfl ?_
  refine zJ_iconst (v := nI 0) dX13_isWithin_1 rfl ?_
  refine zJ_aload_n dX13_isWithin_2 rfl ?_
  refine zP_getr lf_X13_23 (zSt_ob hs 74 13 rfl) rfl (zSt_rf hs 74 12 78 rfl) dX13_isWithin_3 ?_
  refine zJ_iconst (v := nI 0) dX13_isWithin_6 rfl ?_
  refine zP_iald (zSt_ar hs 78 4 rfl) (by first | assumption | with_reducible exact vp_in_nI (by omega) (by omega) | (simp (disch := omega) only [nI_add, pk_mul, pk_sub, pk_div, pk_rem, nI_clamp]; with_reducible exact vp_in_nI (by omega) (by omega))) dX13_isWithin_7 ?_
  refine zJ_iconst (v := nI 1) dX13_isWithin_8 rfl ?_
  rw [e0]
  refine zJ_isub dX13_isWithin_9 ?_
  rw [pk_sub (by omega)]
  refine zP_callSi [_, _, _] _ ls_X13_141 (k_in (d := d - 1) hl (by omega)) rfl (by omega) (Nat.le_of_ble_eq_true rfl) rfl dX13_isWithin_10 ?_
  refine zJ_if_eq 36 dX13_isWithin_13 (by decide) (fun c13 => ?_) (fun c13 => ?_)
  · replace c13 := zb0.mp c13
    refine zJ_iconst (v := nI 0) dX13_isWithin_36 rfl ?_
    refine zJ_zret rfl (by decide) dX13_isWithin_37 ?_
    exact ⟨by rw [c13]; rfl, rfl⟩
  · replace c13 := zb1.mp c13
    refine zJ_iload_n dX13_isWithin_16 rfl ?_
    refine zJ_iconst (v := nI 0) dX13_isWithin_17 rfl ?_
    refine zJ_aload_n dX13_isWithin_18 rfl ?_
    refine zP_getr lf_X13_23 (zSt_ob hs 74 13 rfl) rfl (zSt_rf hs 74 12 78 rfl) dX13_isWithin_19 ?_
    refine zJ_iconst (v := nI 1) dX13_isWithin_22 rfl ?_
    refine zP_iald (zSt_ar hs 78 4 rfl) (by first | assumption | with_reducible exact vp_in_nI (by omega) (by omega) | (simp (disch := omega) only [nI_add, pk_mul, pk_sub, pk_div, pk_rem, nI_clamp]; with_reducible exact vp_in_nI (by omega) (by omega))) dX13_isWithin_23 ?_
    refine zJ_iconst (v := nI 1) dX13_isWithin_24 rfl ?_
    rw [e1]
    refine zJ_isub dX13_isWithin_25 ?_
    rw [pk_sub (by omega)]
    refine zP_callSi [_, _, _] _ ls_X13_141 (k_in (d := d - 1) hl (by omega)) rfl (by omega) (Nat.le_of_ble_eq_true rfl) rfl dX13_isWithin_26 ?_
    refine zJ_if_eq 36 dX13_isWithin_29 (by decide) (fun c29 => ?_) (fun c29 => ?_)
    · replace c29 := zb0.mp c29
      refine zJ_iconst (v := nI 0) dX13_isWithin_36 rfl ?_
      refine zJ_zret rfl (by decide) dX13_isWithin_37 ?_
      exact ⟨by rw [c13, c29]; rfl, rfl⟩
    · replace c29 := zb1.mp c29
      refine zJ_iconst (v := nI 1) dX13_isWithin_32 rfl ?_
      refine zJ_goto 37 dX13_isWithin_33 (by decide) ?_
      refine zJ_zret rfl (by decide) dX13_isWithin_37 ?_
      exact ⟨by rw [c13, c29]; rfl, rfl⟩
theorem m1_tab : ∀ x, x < 16 → 0 < x → nI x + -1 = nI (x - 1) := by decide +kernel
theorem nI_m1 {x : Nat} (h : 0 < x) (hx : x < 16) : nI x + -1 = nI (x - 1) := m1_tab x hx h
theorem wiT {x C : Nat} (h1 : 1 ≤ C) (hC : C ≤ 8) (hx : x < 2 ^ 20) : decide (¬ nI x < nI 0 ∧ nI x ≤ nI (C - 1)) = decide (x < C) := by
  refine decide_eq_decide.mpr ⟨fun h => ?_, fun h => ⟨nI_nlt (Nat.zero_le _) (by omega), (nI_leI (by omega) (by omega)).mpr (by omega)⟩⟩
  have := (nI_leI (by omega) (by omega)).mp h.2
  omega
theorem wiN {C : Nat} (hC : C ≤ 8) : decide (¬ (-1 : Int32) < nI 0 ∧ (-1 : Int32) ≤ nI (C - 1)) = false := decide_eq_false (fun h => h.1 (by decide))
theorem k_isHere (hl : l.stackTraces = false) (hd : 3 ≤ d) (hs : zSt g) {b : zWo} (hB : rB I b) {p : Nat} (hp : p < 64) : zD l Xi mX13_isHere d [.ref 74, .int (nI p)] I g (some (.int (if insM b p then 1 else 0))) I := by
  refine zC_of hl rfl rfl rfl (Nat.le_of_ble_eq_true rfl) (zav_r (zSt_ob hs 74 13 rfl).1 (zav_i zav_0)) ?_
  obtain ⟨h1, h2, h3, h4, -⟩ := hB.1
  refine zJ_aload_n dX13_isHere_0 rfl ?_
  refine zJ_iload_n dX13_isHere_1 rfl ?_
  refine zJ_bipush (v := nI 8) dX13_isHere_2 rfl ?_
  refine zJ_irem dX13_isHere_4 (by decide) ?_
  rw [pk_rem (by omega) (by omega) (by omega)]
  refine zJ_iload_n dX13_isHere_5 rfl ?_
  refine zJ_bipush (v := nI 8) dX13_isHere_6 rfl ?_
  refine zJ_idiv dX13_isHere_8 (by decide) ?_
  rw [pk_div (by omega) (by omega) (by omega)]
  refine zP_callVi [_, _] _ lv_X13_281 (k_isWithin (d := d - 1) hl (by omega) hs hB) (zSt_ob hs 74 13 rfl) rfl (by omega) (Nat.le_of_ble_eq_true rfl) rfl dX13_isHere_9 ?_
  refine zJ_zret rfl zbr dX13_isHere_12 ?_
  refine ⟨?_, rfl⟩
  rw [wiT (by omega) (by omega) (by omega), wiT (by omega) (by omega) (by omega)]
  rfl
theorem k_neighbour (hl : l.stackTraces = false) (hd : 3 ≤ d) (hs : zSt g) {b : zWo} (hB : rB I b) {p v : Nat} (hp : p < 64) (hi : insM b p = true) (hv : v < 4) : zD l Xi mX13_neighbour d [.ref 74, .int (nI p), .int (nI v)] I g (some (.int (oI (nbr b p v)))) I := by
  refine zC_of hl rfl rfl rfl (Nat.le_of_ble_eq_true rfl) (zav_r (zSt_ob hs 74 13 rfl).1 (zav_i (zav_i zav_0))) ?_
  have hb := hB.1
  obtain ⟨h1, h2, h3, h4, -⟩ := hb
  obtain ⟨i1, i2⟩ := insM_iff.mp hi
  have hv4 : v = 0 ∨ v = 1 ∨ v = 2 ∨ v = 3 := by omega
  have t1 : decide (¬ nI (p % 8) < nI 0 ∧ nI (p % 8) ≤ nI (bC b - 1)) = true := (wiT (by omega) (by omega) (by omega)).trans (decide_eq_true i1)
  have t2 : decide (¬ nI (p / 8) < nI 0 ∧ nI (p / 8) ≤ nI (bR b - 1)) = true := (wiT (by omega) (by omega) (by omega)).trans (decide_eq_true i2)
  rcases hv4 with rfl | rfl | rfl | rfl
  · skip
    refine zJ_iload_n dX13_neighbour_0 rfl ?_
    refine zJ_bipush (v := nI 8) dX13_neighbour_1 rfl ?_
    refine zJ_irem dX13_neighbour_3 (by decide) ?_
    rw [pk_rem (by omega) (by omega) (by omega)]
    refine zJ_iload_n dX13_neighbour_4 rfl ?_
    refine zJ_iconst (v := nI 1) dX13_neighbour_5 rfl ?_
    refine zJ_icmp_ne 13 dX13_neighbour_6 (by decide) (fun _ => ?_) (fun c6 => absurd c6 (by decide))
    refine zJ_iload_n dX13_neighbour_13 rfl ?_
    refine zJ_iconst (v := nI 3) dX13_neighbour_14 rfl ?_
    refine zJ_icmp_ne 22 dX13_neighbour_15 (by decide) (fun _ => ?_) (fun c15 => absurd c15 (by decide))
    refine zJ_iconst (v := nI 0) dX13_neighbour_22 rfl ?_
    refine zJ_iadd dX13_neighbour_23 ?_
    rw [nI_add, Nat.add_zero (p % 8)]
    refine zJ_istore_m 3 dX13_neighbour_24 rfl (Nat.le_of_ble_eq_true rfl) (by decide) ?_
    refine zJ_iload_n dX13_neighbour_25 rfl ?_
    refine zJ_bipush (v := nI 8) dX13_neighbour_26 rfl ?_
    refine zJ_idiv dX13_neighbour_28 (by decide) ?_
    rw [pk_div (by omega) (by omega) (by omega)]
    refine zJ_iload_n dX13_neighbour_29 rfl ?_
    refine zJ_iconst (v := nI 2) dX13_neighbour_30 rfl ?_
    refine zJ_icmp_ne 38 dX13_neighbour_31 (by decide) (fun _ => ?_) (fun c31 => absurd c31 (by decide))
    refine zJ_iload_n dX13_neighbour_38 rfl ?_
    refine zJ_if_ne 46 dX13_neighbour_39 (by decide) (fun c39 => absurd rfl c39) (fun _ => ?_)
    refine zJ_iconst (v := -1) dX13_neighbour_42 rfl ?_
    refine zJ_goto 47 dX13_neighbour_43 (by decide) ?_
    refine zJ_iadd dX13_neighbour_47 ?_
    refine zJ_istore dX13_neighbour_48 (Nat.le_of_ble_eq_true rfl) (by decide) ?_
    refine zJ_aload_n dX13_neighbour_50 rfl ?_
    refine zJ_iload_n dX13_neighbour_51 rfl ?_
    refine zJ_iload dX13_neighbour_52 rfl ?_
    refine zP_callVi [_, _] _ lv_X13_281 (k_isWithin (d := d - 1) hl (by omega) hs hB) (zSt_ob hs 74 13 rfl) rfl (by omega) (Nat.le_of_ble_eq_true rfl) rfl dX13_neighbour_54 ?_
    rw [t1, Bool.true_and]
    refine zJ_if_eq 70 dX13_neighbour_57 (by decide) (fun c57 => ?_) (fun c57 => ?_)
    · replace c57 := zb0.mp c57
      refine zJ_iconst (v := -1) dX13_neighbour_70 rfl ?_
      refine zJ_iret rfl dX13_neighbour_71 ?_
      have hz : p / 8 = 0 := by
        refine Nat.eq_zero_of_not_pos (fun z => ?_)
        rw [nI_m1 z (by omega), wiT (by omega) (by omega) (by omega)] at c57
        exact absurd (of_decide_eq_false c57) (by omega)
      exact ⟨by simp [nbr, hz, oI], rfl⟩
    · replace c57 := zb1.mp c57
      refine zJ_bipush (v := nI 8) dX13_neighbour_60 rfl ?_
      refine zJ_iload dX13_neighbour_62 rfl ?_
      refine zJ_imul dX13_neighbour_64 ?_
      refine zJ_iload_n dX13_neighbour_65 rfl ?_
      refine zJ_iadd dX13_neighbour_66 ?_
      refine zJ_goto 71 dX13_neighbour_67 (by decide) ?_
      refine zJ_iret rfl dX13_neighbour_71 ?_
      have hz : 0 < p / 8 := by
        refine Nat.pos_of_ne_zero (fun z => ?_)
        rw [z, show nI 0 + -1 = (-1 : Int32) from rfl, wiN (by omega)] at c57
        cases c57
      refine ⟨?_, rfl⟩
      rw [nI_m1 hz (by omega), pk_mul, nI_add, show 8 * (p / 8 - 1) + p % 8 = p - 8 by omega]
      simp [nbr, hz, oI]
  · skip
    refine zJ_iload_n dX13_neighbour_0 rfl ?_
    refine zJ_bipush (v := nI 8) dX13_neighbour_1 rfl ?_
    refine zJ_irem dX13_neighbour_3 (by decide) ?_
    rw [pk_rem (by omega) (by omega) (by omega)]
    refine zJ_iload_n dX13_neighbour_4 rfl ?_
    refine zJ_iconst (v := nI 1) dX13_neighbour_5 rfl ?_
    refine zJ_icmp_ne 13 dX13_neighbour_6 (by decide) (fun c6 => absurd rfl c6) (fun _ => ?_)
    refine zJ_iconst (v := nI 1) dX13_neighbour_9 rfl ?_
    refine zJ_goto 23 dX13_neighbour_10 (by decide) ?_
    refine zJ_iadd dX13_neighbour_23 ?_
    rw [nI_add]
    refine zJ_istore_m 3 dX13_neighbour_24 rfl (Nat.le_of_ble_eq_true rfl) (by decide) ?_
    refine zJ_iload_n dX13_neighbour_25 rfl ?_
    refine zJ_bipush (v := nI 8) dX13_neighbour_26 rfl ?_
    refine zJ_idiv dX13_neighbour_28 (by decide) ?_
    rw [pk_div (by omega) (by omega) (by omega)]
    refine zJ_iload_n dX13_neighbour_29 rfl ?_
    refine zJ_iconst (v := nI 2) dX13_neighbour_30 rfl ?_
    refine zJ_icmp_ne 38 dX13_neighbour_31 (by decide) (fun _ => ?_) (fun c31 => absurd c31 (by decide))
    refine zJ_iload_n dX13_neighbour_38 rfl ?_
    refine zJ_if_ne 46 dX13_neighbour_39 (by decide) (fun _ => ?_) (fun c39 => absurd c39 (by decide))
    refine zJ_iconst (v := nI 0) dX13_neighbour_46 rfl ?_
    refine zJ_iadd dX13_neighbour_47 ?_
    rw [nI_add, Nat.add_zero (p / 8)]
    refine zJ_istore dX13_neighbour_48 (Nat.le_of_ble_eq_true rfl) (by decide) ?_
    refine zJ_aload_n dX13_neighbour_50 rfl ?_
    refine zJ_iload_n dX13_neighbour_51 rfl ?_
    refine zJ_iload dX13_neighbour_52 rfl ?_
    refine zP_callVi [_, _] _ lv_X13_281 (k_isWithin (d := d - 1) hl (by omega) hs hB) (zSt_ob hs 74 13 rfl) rfl (by omega) (Nat.le_of_ble_eq_true rfl) rfl dX13_neighbour_54 ?_
    rw [t2, Bool.and_true, wiT (by omega) (by omega) (by omega)]
    refine zJ_if_eq 70 dX13_neighbour_57 (by decide) (fun c57 => ?_) (fun c57 => ?_)
    · replace c57 := zb0.mp c57
      refine zJ_iconst (v := -1) dX13_neighbour_70 rfl ?_
      refine zJ_iret rfl dX13_neighbour_71 ?_
      exact ⟨by simp [nbr, of_decide_eq_false c57, oI], rfl⟩
    · replace c57 := zb1.mp c57
      refine zJ_bipush (v := nI 8) dX13_neighbour_60 rfl ?_
      refine zJ_iload dX13_neighbour_62 rfl ?_
      refine zJ_imul dX13_neighbour_64 ?_
      refine zJ_iload_n dX13_neighbour_65 rfl ?_
      refine zJ_iadd dX13_neighbour_66 ?_
      refine zJ_goto 71 dX13_neighbour_67 (by decide) ?_
      refine zJ_iret rfl dX13_neighbour_71 ?_
      refine ⟨?_, rfl⟩
      rw [pk_mul, nI_add, show 8 * (p / 8) + (p % 8 + 1) = p + 1 by omega]
      simp [nbr, of_decide_eq_true c57, oI]
  · skip
    refine zJ_iload_n dX13_neighbour_0 rfl ?_
    refine zJ_bipush (v := nI 8) dX13_neighbour_1 rfl ?_
    refine zJ_irem dX13_neighbour_3 (by decide) ?_
    rw [pk_rem (by omega) (by omega) (by omega)]
    refine zJ_iload_n dX13_neighbour_4 rfl ?_
    refine zJ_iconst (v := nI 1) dX13_neighbour_5 rfl ?_
    refine zJ_icmp_ne 13 dX13_neighbour_6 (by decide) (fun _ => ?_) (fun c6 => absurd c6 (by decide))
    refine zJ_iload_n dX13_neighbour_13 rfl ?_
    refine zJ_iconst (v := nI 3) dX13_neighbour_14 rfl ?_
    refine zJ_icmp_ne 22 dX13_neighbour_15 (by decide) (fun _ => ?_) (fun c15 => absurd c15 (by decide))
    refine zJ_iconst (v := nI 0) dX13_neighbour_22 rfl ?_
    refine zJ_iadd dX13_neighbour_23 ?_
    rw [nI_add, Nat.add_zero (p % 8)]
    refine zJ_istore_m 3 dX13_neighbour_24 rfl (Nat.le_of_ble_eq_true rfl) (by decide) ?_
    refine zJ_iload_n dX13_neighbour_25 rfl ?_
    refine zJ_bipush (v := nI 8) dX13_neighbour_26 rfl ?_
    refine zJ_idiv dX13_neighbour_28 (by decide) ?_
    rw [pk_div (by omega) (by omega) (by omega)]
    refine zJ_iload_n dX13_neighbour_29 rfl ?_
    refine zJ_iconst (v := nI 2) dX13_neighbour_30 rfl ?_
    refine zJ_icmp_ne 38 dX13_neighbour_31 (by decide) (fun c31 => absurd rfl c31) (fun _ => ?_)
    refine zJ_iconst (v := nI 1) dX13_neighbour_34 rfl ?_
    refine zJ_goto 47 dX13_neighbour_35 (by decide) ?_
    refine zJ_iadd dX13_neighbour_47 ?_
    rw [nI_add]
    refine zJ_istore dX13_neighbour_48 (Nat.le_of_ble_eq_true rfl) (by decide) ?_
    refine zJ_aload_n dX13_neighbour_50 rfl ?_
    refine zJ_iload_n dX13_neighbour_51 rfl ?_
    refine zJ_iload dX13_neighbour_52 rfl ?_
    refine zP_callVi [_, _] _ lv_X13_281 (k_isWithin (d := d - 1) hl (by omega) hs hB) (zSt_ob hs 74 13 rfl) rfl (by omega) (Nat.le_of_ble_eq_true rfl) rfl dX13_neighbour_54 ?_
    rw [t1, Bool.true_and, wiT (by omega) (by omega) (by omega)]
    refine zJ_if_eq 70 dX13_neighbour_57 (by decide) (fun c57 => ?_) (fun c57 => ?_)
    · replace c57 := zb0.mp c57
      refine zJ_iconst (v := -1) dX13_neighbour_70 rfl ?_
      refine zJ_iret rfl dX13_neighbour_71 ?_
      exact ⟨by simp [nbr, of_decide_eq_false c57, oI], rfl⟩
    · replace c57 := zb1.mp c57
      refine zJ_bipush (v := nI 8) dX13_neighbour_60 rfl ?_
      refine zJ_iload dX13_neighbour_62 rfl ?_
      refine zJ_imul dX13_neighbour_64 ?_
      refine zJ_iload_n dX13_neighbour_65 rfl ?_
      refine zJ_iadd dX13_neighbour_66 ?_
      refine zJ_goto 71 dX13_neighbour_67 (by decide) ?_
      refine zJ_iret rfl dX13_neighbour_71 ?_
      refine ⟨?_, rfl⟩
      rw [pk_mul, nI_add, show 8 * (p / 8 + 1) + p % 8 = p + 8 by omega]
      simp [nbr, of_decide_eq_true c57, oI]
  · skip
    refine zJ_iload_n dX13_neighbour_0 rfl ?_
    refine zJ_bipush (v := nI 8) dX13_neighbour_1 rfl ?_
    refine zJ_irem dX13_neighbour_3 (by decide) ?_
    rw [pk_rem (by omega) (by omega) (by omega)]
    refine zJ_iload_n dX13_neighbour_4 rfl ?_
    refine zJ_iconst (v := nI 1) dX13_neighbour_5 rfl ?_
    refine zJ_icmp_ne 13 dX13_neighbour_6 (by decide) (fun _ => ?_) (fun c6 => absurd c6 (by decide))
    refine zJ_iload_n dX13_neighbour_13 rfl ?_
    refine zJ_iconst (v := nI 3) dX13_neighbour_14 rfl ?_
    refine zJ_icmp_ne 22 dX13_neighbour_15 (by decide) (fun c15 => absurd rfl c15) (fun _ => ?_)
    refine zJ_iconst (v := -1) dX13_neighbour_18 rfl ?_
    refine zJ_goto 23 dX13_neighbour_19 (by decide) ?_
    refine zJ_iadd dX13_neighbour_23 ?_
    refine zJ_istore_m 3 dX13_neighbour_24 rfl (Nat.le_of_ble_eq_true rfl) (by decide) ?_
    refine zJ_iload_n dX13_neighbour_25 rfl ?_
    refine zJ_bipush (v := nI 8) dX13_neighbour_26 rfl ?_
    refine zJ_idiv dX13_neighbour_28 (by decide) ?_
    rw [pk_div (by omega) (by omega) (by omega)]
    refine zJ_iload_n dX13_neighbour_29 rfl ?_
    refine zJ_iconst (v := nI 2) dX13_neighbour_30 rfl ?_
    refine zJ_icmp_ne 38 dX13_neighbour_31 (by decide) (fun _ => ?_) (fun c31 => absurd c31 (by decide))
    refine zJ_iload_n dX13_neighbour_38 rfl ?_
    refine zJ_if_ne 46 dX13_neighbour_39 (by decide) (fun _ => ?_) (fun c39 => absurd c39 (by decide))
    refine zJ_iconst (v := nI 0) dX13_neighbour_46 rfl ?_
    refine zJ_iadd dX13_neighbour_47 ?_
    rw [nI_add, Nat.add_zero (p / 8)]
    refine zJ_istore dX13_neighbour_48 (Nat.le_of_ble_eq_true rfl) (by decide) ?_
    refine zJ_aload_n dX13_neighbour_50 rfl ?_
    refine zJ_iload_n dX13_neighbour_51 rfl ?_
    refine zJ_iload dX13_neighbour_52 rfl ?_
    refine zP_callVi [_, _] _ lv_X13_281 (k_isWithin (d := d - 1) hl (by omega) hs hB) (zSt_ob hs 74 13 rfl) rfl (by omega) (Nat.le_of_ble_eq_true rfl) rfl dX13_neighbour_54 ?_
    rw [t2, Bool.and_true]
    refine zJ_if_eq 70 dX13_neighbour_57 (by decide) (fun c57 => ?_) (fun c57 => ?_)
    · replace c57 := zb0.mp c57
      refine zJ_iconst (v := -1) dX13_neighbour_70 rfl ?_
      refine zJ_iret rfl dX13_neighbour_71 ?_
      have hz : p % 8 = 0 := by
        refine Nat.eq_zero_of_not_pos (fun z => ?_)
        rw [nI_m1 z (by omega), wiT (by omega) (by omega) (by omega)] at c57
        exact absurd (of_decide_eq_false c57) (by omega)
      exact ⟨by simp [nbr, hz, oI], rfl⟩
    · replace c57 := zb1.mp c57
      refine zJ_bipush (v := nI 8) dX13_neighbour_60 rfl ?_
      refine zJ_iload dX13_neighbour_62 rfl ?_
      refine zJ_imul dX13_neighbour_64 ?_
      refine zJ_iload_n dX13_neighbour_65 rfl ?_
      refine zJ_iadd dX13_neighbour_66 ?_
      refine zJ_goto 71 dX13_neighbour_67 (by decide) ?_
      refine zJ_iret rfl dX13_neighbour_71 ?_
      have hz : 0 < p % 8 := by
        refine Nat.pos_of_ne_zero (fun z => ?_)
        rw [z, show nI 0 + -1 = (-1 : Int32) from rfl, wiN (by omega)] at c57
        cases c57
      refine ⟨?_, rfl⟩
      rw [nI_m1 hz (by omega), pk_mul, nI_add, show 8 * (p / 8) + (p % 8 - 1) = p - 1 by omega]
      simp [nbr, hz, oI]
theorem k_users (hl : l.stackTraces = false) (hd : 3 ≤ d) (hs : zSt g) {b : zWo} (hB : rB I b) {a q : Nat} (ha : zAr g a 519) (hq : q < 64) : zD l Xi mX13_users d [.ref 74, .ref a, .int (nI q)] I g (some (.int (bitF (fun n => tin (I a) n q) (bN b)))) I := by
  refine zC_of hl rfl rfl rfl (Nat.le_of_ble_eq_true rfl) (zav_r (zSt_ob hs 74 13 rfl).1 (zav_r ha.1 (zav_i zav_0))) ?_
  have hN6 := hB.1.2.2.2.2.1
  have hN : I 78 (nI 2).toNatClampNeg = nI (bN b) := by rw [nI_clamp (by omega)]; exact hB.2.1.2.2.1
  have loop : ∀ m p, p + m = bN b → zJ l Xi mX13_users d 0 0 5 [some (.ref 74), some (.ref a), some (.int (nI q)), some (.int (bitF (fun n => tin (I a) n q) p)), some (.int (nI p))] [] (I, g) (fun r' h' => r' = .inl (some (.int (bitF (fun n => tin (I a) n q) (bN b)))) ∧ h' = (I, g)) := by
    intro m
    induction m with
    | zero =>
      intro p hp
      obtain rfl : p = bN b := by omega
      refine zJ_iload dX13_users_5 rfl ?_
      refine zJ_aload_n dX13_users_7 rfl ?_
      refine zP_getr lf_X13_23 (zSt_ob hs 74 13 rfl) rfl (zSt_rf hs 74 12 78 rfl) dX13_users_8 ?_
      refine zJ_iconst (v := nI 2) dX13_users_11 rfl ?_
      refine zP_iald (zSt_ar hs 78 4 rfl) (by first | assumption | with_reducible exact vp_in_nI (by omega) (by omega) | (simp (disch := omega) only [nI_add, pk_mul, pk_sub, pk_div, pk_rem, nI_clamp]; with_reducible exact vp_in_nI (by omega) (by omega))) dX13_users_12 ?_
      refine zJ_icmp_ge 43 dX13_users_13 (by decide) (fun _ => ?_) (fun c13 => absurd (by rw [hN]; exact nI_le (by omega) (by omega)) c13)
      refine zJ_iload_n dX13_users_43 rfl ?_
      refine zJ_iret rfl dX13_users_44 ?_
      exact ⟨rfl, rfl⟩
    | succ m ih =>
      intro p hp
      refine zJ_iload dX13_users_5 rfl ?_
      refine zJ_aload_n dX13_users_7 rfl ?_
      refine zP_getr lf_X13_23 (zSt_ob hs 74 13 rfl) rfl (zSt_rf hs 74 12 78 rfl) dX13_users_8 ?_
      refine zJ_iconst (v := nI 2) dX13_users_11 rfl ?_
      refine zP_iald (zSt_ar hs 78 4 rfl) (by first | assumption | with_reducible exact vp_in_nI (by omega) (by omega) | (simp (disch := omega) only [nI_add, pk_mul, pk_sub, pk_div, pk_rem, nI_clamp]; with_reducible exact vp_in_nI (by omega) (by omega))) dX13_users_12 ?_
      refine zJ_icmp_ge 43 dX13_users_13 (by decide) (fun c13 => absurd c13 (by rw [hN]; exact nI_ge (by omega) (by omega))) (fun _ => ?_)
      refine zJ_iload_n dX13_users_16 rfl ?_
      refine zJ_aload_n dX13_users_17 rfl ?_
      refine zJ_iload dX13_users_18 rfl ?_
      refine zJ_iload_n dX13_users_20 rfl ?_
      refine zP_callSi [_, _, _] _ ls_X13_287 (k_isIn (d := d - 1) hl (by omega) ha (by omega) hq) rfl (by omega) (Nat.le_of_ble_eq_true rfl) rfl dX13_users_21 ?_
      refine zJ_if_eq 34 dX13_users_24 (by decide) (fun c24 => ?_) (fun c24 => ?_)
      · replace c24 := zb0.mp c24
        refine zJ_iconst (v := nI 0) dX13_users_34 rfl ?_
        refine zJ_ior dX13_users_35 ?_
        refine zJ_istore_m 3 dX13_users_36 rfl (Nat.le_of_ble_eq_true rfl) (by decide) ?_
        refine zJ_iinc1 dX13_users_37 rfl (by decide) ?_
        refine zJ_goto 5 dX13_users_40 (by decide) ?_
        refine zJ_eq ?_ rfl rfl (ih (p + 1) (by omega))
        simp [bitF, lp, c24, nI0]
      · replace c24 := zb1.mp c24
        refine zJ_iconst (v := nI 1) dX13_users_27 rfl ?_
        refine zJ_iload dX13_users_28 rfl ?_
        refine zJ_ishl dX13_users_30 ?_
        refine zJ_goto 35 dX13_users_31 (by decide) ?_
        refine zJ_ior dX13_users_35 ?_
        refine zJ_istore_m 3 dX13_users_36 rfl (Nat.le_of_ble_eq_true rfl) (by decide) ?_
        refine zJ_iinc1 dX13_users_37 rfl (by decide) ?_
        refine zJ_goto 5 dX13_users_40 (by decide) ?_
        refine zJ_eq ?_ rfl rfl (ih (p + 1) (by omega))
        simp [bitF, lp, c24, nI0]
  refine zJ_iconst (v := nI 0) dX13_users_0 rfl ?_
  refine zJ_istore_m 3 dX13_users_1 rfl (Nat.le_of_ble_eq_true rfl) (by decide) ?_
  refine zJ_iconst (v := nI 0) dX13_users_2 rfl ?_
  refine zJ_istore dX13_users_3 (Nat.le_of_ble_eq_true rfl) (by decide) ?_
  exact loop (bN b) 0 (by omega)
def onE (x : Int32) : Nat → Int32 := lp (fun k a => a + (x >>> (nI k &&& 31) &&& nI 1)) 0
theorem k_ones (hl : l.stackTraces = false) (hd : 1 ≤ d) {x : Int32} : zD l Xi mX13_ones d [.int x] I g (some (.int (onE x 8))) I := by
  refine zC_of hl rfl rfl rfl (Nat.le_of_ble_eq_true rfl) (zav_i zav_0) ?_
  have loop : ∀ m p, p + m = 8 → zJ l Xi mX13_ones d 0 0 4 [some (.int x), some (.int (onE x p)), some (.int (nI p))] [] (I, g) (fun r' h' => r' = .inl (some (.int (onE x 8))) ∧ h' = (I, g)) := by
    intro m
    induction m with
    | zero =>
      intro p hp
      obtain rfl : p = 8 := by omega
      refine zJ_iload_n dX13_ones_4 rfl ?_
      refine zJ_bipush (v := nI 8) dX13_ones_5 rfl ?_
      refine zJ_icmp_ge 24 dX13_ones_7 (by decide) (fun _ => ?_) (fun c7 => absurd (nI_le (by omega) (by omega)) c7)
      refine zJ_iload_n dX13_ones_24 rfl ?_
      refine zJ_iret rfl dX13_ones_25 ?_
      exact ⟨rfl, rfl⟩
    | succ m ih =>
      intro p hp
      refine zJ_iload_n dX13_ones_4 rfl ?_
      refine zJ_bipush (v := nI 8) dX13_ones_5 rfl ?_
      refine zJ_icmp_ge 24 dX13_ones_7 (by decide) (fun c7 => absurd c7 (nI_ge (by omega) (by omega))) (fun _ => ?_)
      refine zJ_iload_n dX13_ones_10 rfl ?_
      refine zJ_iload_n dX13_ones_11 rfl ?_
      refine zJ_iload_n dX13_ones_12 rfl ?_
      refine zJ_ishr dX13_ones_13 ?_
      refine zJ_iconst (v := nI 1) dX13_ones_14 rfl ?_
      refine zJ_iand dX13_ones_15 ?_
      refine zJ_iadd dX13_ones_16 ?_
      refine zJ_istore_m 1 dX13_ones_17 rfl (Nat.le_of_ble_eq_true rfl) (by decide) ?_
      refine zJ_iinc1 dX13_ones_18 rfl (by decide) ?_
      refine zJ_goto 4 dX13_ones_21 (by decide) ?_
      exact zJ_back (zle_r (zle_r (zle_r zle_0))) rfl (ih (p + 1) (by omega))
  refine zJ_iconst (v := nI 0) dX13_ones_0 rfl ?_
  refine zJ_istore_m 1 dX13_ones_1 rfl (Nat.le_of_ble_eq_true rfl) (by decide) ?_
  refine zJ_iconst (v := nI 0) dX13_ones_2 rfl ?_
  refine zJ_istore_m 2 dX13_ones_3 rfl (Nat.le_of_ble_eq_true rfl) (by decide) ?_
  exact loop 8 0 (by omega)
theorem on_tab : ∀ m, m < 64 → ∀ N, N < 7 → onE (bitF (fun k => Nat.testBit m k) N) 8 = nI (cB (fun k => Nat.testBit m k) N) := by decide +kernel
theorem on_F {f : Nat → Bool} {N : Nat} (hN : N ≤ 6) : onE (bitF f N) 8 = nI (cB f N) := by
  obtain ⟨m, hm, h⟩ := mask6 f
  rw [bitF_congr (fun k hk => h k (by omega)), on_tab m hm N (by omega)]
  congr 1
  exact cB_congr (fun k hk => (h k (by omega)).symm)
theorem on_tab2 : ∀ m, m < 64 → ∀ n, n < 6 → ∀ N, N < 7 → onE (bitF (fun k => Nat.testBit m k) N &&& ((nI 1 <<< (nI n &&& 31)) ^^^ (-1))) 8 = nI (cB (fun k => Nat.testBit m k && decide (k ≠ n)) N) := by decide +kernel
theorem on_oth {f : Nat → Bool} {n N : Nat} (hn : n < 6) (hN : N ≤ 6) : onE (bitF f N &&& ((nI 1 <<< (nI n &&& 31)) ^^^ (-1))) 8 = nI (cB (fun k => f k && decide (k ≠ n)) N) := by
  obtain ⟨m, hm, h⟩ := mask6 f
  rw [bitF_congr (fun k hk => h k (by omega)), on_tab2 m hm n hn N (by omega)]
  congr 1
  exact cB_congr (fun k hk => by rw [h k (by omega)])
theorem k_isPin (hl : l.stackTraces = false) (hd : 1 ≤ d) (hs : zSt g) {b : zWo} (hB : rB I b) {n q : Nat} (hn : n < bN b) (hq : q < 64) : zD l Xi mX13_isPin d [.ref 74, .int (nI n), .int (nI q)] I g (some (.int (if pbB b q n then 1 else 0))) I := by
  refine zC_of hl rfl rfl rfl (Nat.le_of_ble_eq_true rfl) (zav_r (zSt_ob hs 74 13 rfl).1 (zav_i (zav_i zav_0))) ?_
  have hN6 := hB.1.2.2.2.2.1
  have h4 := hB.1.2.2.2.2.2.1 n (by omega)
  have hc : I (89 + 1 + n) (nI 2).toNatClampNeg = nI (bpc b n) := by rw [nI_clamp (by omega)]; exact (hB.2.2.2.1 n hn).2
  have loop : ∀ m p, p + m = bpc b n → anyB (fun i => decide (bpn b n i = q)) p = false → zJ l Xi mX13_isPin d 0 0 2 [some (.ref 74), some (.int (nI n)), some (.int (nI q)), some (.int (nI p))] [] (I, g) (fun r' h' => r' = .inl (some (.int (if pbB b q n then 1 else 0))) ∧ h' = (I, g)) := by
    intro m
    induction m with
    | zero =>
      intro p hp hI
      obtain rfl : p = bpc b n := by omega
      refine zJ_iload_n dX13_isPin_2 rfl ?_
      refine zJ_aload_n dX13_isPin_3 rfl ?_
      refine zP_getr lf_X13_40 (zSt_ob hs 74 13 rfl) rfl (zSt_rf hs 74 17 89 rfl) dX13_isPin_4 ?_
      refine zJ_iload_n dX13_isPin_7 rfl ?_
      refine zP_rowK (k := n) (zSt_g89 hs) (by omega) (by decide) dX13_isPin_8 ?_
      refine zJ_iconst (v := nI 2) dX13_isPin_9 rfl ?_
      refine zP_iald (zGr_ar (zSt_g89 hs) (i := n) (by omega)) (by first | assumption | with_reducible exact vp_in_nI (by omega) (by omega) | (simp (disch := omega) only [nI_add, pk_mul, pk_sub, pk_div, pk_rem, nI_clamp]; with_reducible exact vp_in_nI (by omega) (by omega))) dX13_isPin_10 ?_
      refine zJ_icmp_ge 34 dX13_isPin_11 (by decide) (fun _ => ?_) (fun c11 => absurd (by rw [hc]; exact nI_le (by omega) (by omega)) c11)
      refine zJ_iconst (v := nI 0) dX13_isPin_34 rfl ?_
      refine zJ_zret rfl (by decide) dX13_isPin_35 ?_
      exact ⟨by unfold pbB; rw [hI]; rfl, rfl⟩
    | succ m ih =>
      intro p hp hI
      have hpin := hB.2.2.2.2.1 n p hn (by omega)
      have hp64 := (hB.1.2.2.2.2.2.2.1 n p (by omega) (by omega)).1
      refine zJ_iload_n dX13_isPin_2 rfl ?_
      refine zJ_aload_n dX13_isPin_3 rfl ?_
      refine zP_getr lf_X13_40 (zSt_ob hs 74 13 rfl) rfl (zSt_rf hs 74 17 89 rfl) dX13_isPin_4 ?_
      refine zJ_iload_n dX13_isPin_7 rfl ?_
      refine zP_rowK (k := n) (zSt_g89 hs) (by omega) (by decide) dX13_isPin_8 ?_
      refine zJ_iconst (v := nI 2) dX13_isPin_9 rfl ?_
      refine zP_iald (zGr_ar (zSt_g89 hs) (i := n) (by omega)) (by first | assumption | with_reducible exact vp_in_nI (by omega) (by omega) | (simp (disch := omega) only [nI_add, pk_mul, pk_sub, pk_div, pk_rem, nI_clamp]; with_reducible exact vp_in_nI (by omega) (by omega))) dX13_isPin_10 ?_
      refine zJ_icmp_ge 34 dX13_isPin_11 (by decide) (fun c11 => absurd c11 (by rw [hc]; exact nI_ge (by omega) (by omega))) (fun _ => ?_)
      refine zJ_aload_n dX13_isPin_14 rfl ?_
      refine zP_getr lf_X13_46 (zSt_ob hs 74 13 rfl) rfl (zSt_rf hs 74 19 103 rfl) dX13_isPin_15 ?_
      refine zJ_iload_n dX13_isPin_18 rfl ?_
      refine zP_rowK (k := n) (zSt_g103 hs) (by omega) (by decide) dX13_isPin_19 ?_
      refine zJ_iload_n dX13_isPin_20 rfl ?_
      refine zP_iald (zGr_ar (zSt_g103 hs) (i := n) (by omega)) (by first | assumption | with_reducible exact vp_in_nI (by omega) (by omega) | (simp (disch := omega) only [nI_add, pk_mul, pk_sub, pk_div, pk_rem, nI_clamp]; with_reducible exact vp_in_nI (by omega) (by omega))) dX13_isPin_21 ?_
      rw [nI_clamp (by omega), hpin]
      refine zJ_iload_n dX13_isPin_22 rfl ?_
      refine zJ_icmp_ne 28 dX13_isPin_23 (by decide) (fun c23 => ?_) (fun c23 => ?_)
      · skip
        refine zJ_iinc1 dX13_isPin_28 rfl (by decide) ?_
        refine zJ_goto 2 dX13_isPin_31 (by decide) ?_
        refine zJ_back (zle_r (zle_r (zle_r (zle_r zle_0)))) rfl (ih (p + 1) (by omega) ?_)
        show (anyB (fun i => decide (bpn b n i = q)) p || decide (bpn b n p = q)) = false
        rw [hI, Bool.false_or]
        exact decide_eq_false (fun e => c23 (by rw [e]))
      · skip
        refine zJ_iconst (v := nI 1) dX13_isPin_26 rfl ?_
        refine zJ_zret rfl (by decide) dX13_isPin_27 ?_
        have e : pbB b q n = true := anyB_iff.mpr ⟨p, by omega, decide_eq_true ((nI_eq (by omega) (by omega)).mp c23)⟩
        exact ⟨by rw [e]; rfl, rfl⟩
  refine zJ_iconst (v := nI 0) dX13_isPin_0 rfl ?_
  refine zJ_istore_m 3 dX13_isPin_1 rfl (Nat.le_of_ble_eq_true rfl) (by decide) ?_
  exact loop (bpc b n) 0 (by omega) rfl
theorem k_pinned (hl : l.stackTraces = false) (hd : 2 ≤ d) (hs : zSt g) {b : zWo} (hB : rB I b) {q : Nat} (hq : q < 64) : zD l Xi mX13_pinned d [.ref 74, .int (nI q)] I g (some (.int (bitF (pbB b q) (bN b)))) I := by
  refine zC_of hl rfl rfl rfl (Nat.le_of_ble_eq_true rfl) (zav_r (zSt_ob hs 74 13 rfl).1 (zav_i zav_0)) ?_
  have hN6 := hB.1.2.2.2.2.1
  have hN : I 78 (nI 2).toNatClampNeg = nI (bN b) := by rw [nI_clamp (by omega)]; exact hB.2.1.2.2.1
  have loop : ∀ m p, p + m = bN b → zJ l Xi mX13_pinned d 0 0 4 [some (.ref 74), some (.int (nI q)), some (.int (bitF (pbB b q) p)), some (.int (nI p))] [] (I, g) (fun r' h' => r' = .inl (some (.int (bitF (pbB b q) (bN b)))) ∧ h' = (I, g)) := by
    intro m
    induction m with
    | zero =>
      intro p hp
      obtain rfl : p = bN b := by omega
      refine zJ_iload_n dX13_pinned_4 rfl ?_
      refine zJ_aload_n dX13_pinned_5 rfl ?_
      refine zP_getr lf_X13_23 (zSt_ob hs 74 13 rfl) rfl (zSt_rf hs 74 12 78 rfl) dX13_pinned_6 ?_
      refine zJ_iconst (v := nI 2) dX13_pinned_9 rfl ?_
      refine zP_iald (zSt_ar hs 78 4 rfl) (by first | assumption | with_reducible exact vp_in_nI (by omega) (by omega) | (simp (disch := omega) only [nI_add, pk_mul, pk_sub, pk_div, pk_rem, nI_clamp]; with_reducible exact vp_in_nI (by omega) (by omega))) dX13_pinned_10 ?_
      refine zJ_icmp_ge 39 dX13_pinned_11 (by decide) (fun _ => ?_) (fun c11 => absurd (by rw [hN]; exact nI_le (by omega) (by omega)) c11)
      refine zJ_iload_n dX13_pinned_39 rfl ?_
      refine zJ_iret rfl dX13_pinned_40 ?_
      exact ⟨rfl, rfl⟩
    | succ m ih =>
      intro p hp
      refine zJ_iload_n dX13_pinned_4 rfl ?_
      refine zJ_aload_n dX13_pinned_5 rfl ?_
      refine zP_getr lf_X13_23 (zSt_ob hs 74 13 rfl) rfl (zSt_rf hs 74 12 78 rfl) dX13_pinned_6 ?_
      refine zJ_iconst (v := nI 2) dX13_pinned_9 rfl ?_
      refine zP_iald (zSt_ar hs 78 4 rfl) (by first | assumption | with_reducible exact vp_in_nI (by omega) (by omega) | (simp (disch := omega) only [nI_add, pk_mul, pk_sub, pk_div, pk_rem, nI_clamp]; with_reducible exact vp_in_nI (by omega) (by omega))) dX13_pinned_10 ?_
      refine zJ_icmp_ge 39 dX13_pinned_11 (by decide) (fun c11 => absurd c11 (by rw [hN]; exact nI_ge (by omega) (by omega))) (fun _ => ?_)
      refine zJ_iload_n dX13_pinned_14 rfl ?_
      refine zJ_aload_n dX13_pinned_15 rfl ?_
      refine zJ_iload_n dX13_pinned_16 rfl ?_
      refine zJ_iload_n dX13_pinned_17 rfl ?_
      refine zP_callVi [_, _] _ lv_X13_202 (k_isPin (d := d - 1) hl (by omega) hs hB (by omega) hq) (zSt_ob hs 74 13 rfl) rfl (by omega) (Nat.le_of_ble_eq_true rfl) rfl dX13_pinned_18 ?_
      refine zJ_if_eq 30 dX13_pinned_21 (by decide) (fun c21 => ?_) (fun c21 => ?_)
      · replace c21 := zb0.mp c21
        refine zJ_iconst (v := nI 0) dX13_pinned_30 rfl ?_
        refine zJ_ior dX13_pinned_31 ?_
        refine zJ_istore_m 2 dX13_pinned_32 rfl (Nat.le_of_ble_eq_true rfl) (by decide) ?_
        refine zJ_iinc1 dX13_pinned_33 rfl (by decide) ?_
        refine zJ_goto 4 dX13_pinned_36 (by decide) ?_
        refine zJ_eq ?_ rfl rfl (ih (p + 1) (by omega))
        simp [bitF, lp, c21, nI0]
      · replace c21 := zb1.mp c21
        refine zJ_iconst (v := nI 1) dX13_pinned_24 rfl ?_
        refine zJ_iload_n dX13_pinned_25 rfl ?_
        refine zJ_ishl dX13_pinned_26 ?_
        refine zJ_goto 31 dX13_pinned_27 (by decide) ?_
        refine zJ_ior dX13_pinned_31 ?_
        refine zJ_istore_m 2 dX13_pinned_32 rfl (Nat.le_of_ble_eq_true rfl) (by decide) ?_
        refine zJ_iinc1 dX13_pinned_33 rfl (by decide) ?_
        refine zJ_goto 4 dX13_pinned_36 (by decide) ?_
        refine zJ_eq ?_ rfl rfl (ih (p + 1) (by omega))
        simp [bitF, lp, c21, nI0]
  refine zJ_iconst (v := nI 0) dX13_pinned_0 rfl ?_
  refine zJ_istore_m 2 dX13_pinned_1 rfl (Nat.le_of_ble_eq_true rfl) (by decide) ?_
  refine zJ_iconst (v := nI 0) dX13_pinned_2 rfl ?_
  refine zJ_istore_m 3 dX13_pinned_3 rfl (Nat.le_of_ble_eq_true rfl) (by decide) ?_
  exact loop (bN b) 0 (by omega)
theorem mor_tab : ∀ x, x < 16 → ∀ y, y < 16 → morI (nI 0) (nI x - nI y) = nI (x - y) := by decide +kernel
theorem morI0 {x y : Nat} (hx : x < 16) (hy : y < 16) : morI (nI 0) (nI x - nI y) = nI (x - y) := mor_tab x hx y hy
/-- the users of a place, in a row that stands -/
theorem r_users {a : Nat} {b : zWo} {R : rwT} (hb : bdOk b) (h : rRow I a b R) (hok : okR b R) {p : Nat} (hp : p < 64) : cB (fun n => tin (I a) n p) (bN b) = usn R p := by
  have hN := hb.2.2.2.2.1
  rw [cB_congr (f' := fun n => tin R n p) (fun n hn => r_tin h (by omega) hp)]
  unfold usn
  have : ∀ k, bN b + k ≤ 6 → cB (fun n => tin R n p) (bN b + k) = cB (fun n => tin R n p) (bN b) := by
    intro k
    induction k with
    | zero => intro _; rfl
    | succ k ih =>
      intro hk
      rw [show bN b + (k + 1) = (bN b + k) + 1 from rfl]
      simp only [cB]
      rw [ih (by omega)]
      simp [hok.2.1 (bN b + k) p (by omega) hp (Or.inl (by omega))]
  rw [← this (6 - bN b) (by omega), show bN b + (6 - bN b) = 6 by omega]
theorem r_out {b : zWo} {R : rwT} (hok : okR b R) {p : Nat} (hp : p < 64) (hi : insM b p = false) : usn R p = 0 := by
  have : ∀ n, n ≤ 6 → cB (fun n => tin R n p) n = 0 := by
    intro n
    induction n with
    | zero => intro _; rfl
    | succ n ih =>
      intro hn
      simp only [cB]
      rw [ih (by omega)]
      by_cases e : tin R n p = true
      · obtain ⟨dep, hd⟩ := hok.1 n (by omega)
        have := (hd p hp e).1
        rw [hi] at this; cases this
      · simp [e]
  exact this 6 (Nat.le_refl _)
theorem k_over (hl : l.stackTraces = false) (hd : 4 ≤ d) (hs : zSt g) {b : zWo} {R : rwT} (hB : rB I b) {a q : Nat} (ha : zAr g a 519) (hR : rRow I a b R) (hok : okR b R) (hq : q < 64) : zD l Xi mX13_over d [.ref 74, .ref a, .int (nI q)] I g (some (.int (nI (ovN b R q)))) I := by
  refine zC_of hl rfl rfl rfl (Nat.le_of_ble_eq_true rfl) (zav_r (zSt_ob hs 74 13 rfl).1 (zav_r ha.1 (zav_i zav_0))) ?_
  have hN6 := hB.1.2.2.2.2.1
  have hu : usn R q ≤ 6 := cB_le
  have hw := hB.1.2.2.2.2.2.2.2.2.1 q hq
  refine zJ_aload_n dX13_over_0 rfl ?_
  refine zJ_iload_n dX13_over_1 rfl ?_
  refine zP_callVi [_] _ lv_X13_199 (k_isHere (d := d - 1) hl (by omega) hs hB hq) (zSt_ob hs 74 13 rfl) rfl (by omega) (Nat.le_of_ble_eq_true rfl) rfl dX13_over_2 ?_
  refine zJ_if_eq 31 dX13_over_5 (by decide) (fun c5 => ?_) (fun c5 => ?_)
  · replace c5 := zb0.mp c5
    refine zJ_iconst (v := nI 0) dX13_over_31 rfl ?_
    refine zJ_iret rfl dX13_over_32 ?_
    refine ⟨?_, rfl⟩
    have := r_out hok hq c5
    unfold ovN
    rw [this, Nat.zero_sub]
  · replace c5 := zb1.mp c5
    refine zJ_iconst (v := nI 0) dX13_over_8 rfl ?_
    refine zJ_aload_n dX13_over_9 rfl ?_
    refine zJ_aload_n dX13_over_10 rfl ?_
    refine zJ_iload_n dX13_over_11 rfl ?_
    refine zP_callVi [_, _] _ lv_X13_291 (k_users (d := d - 1) hl (by omega) hs hB ha hq) (zSt_ob hs 74 13 rfl) rfl (by omega) (Nat.le_of_ble_eq_true rfl) rfl dX13_over_12 ?_
    refine zP_callSi [_] _ ls_X13_295 (k_ones (d := d - 1) hl (by omega)) rfl (by omega) (Nat.le_of_ble_eq_true rfl) rfl dX13_over_15 ?_
    rw [on_F hN6, r_users hB.1 hR hok hq]
    refine zJ_aload_n dX13_over_18 rfl ?_
    refine zP_getr lf_X13_32 (zSt_ob hs 74 13 rfl) rfl (zSt_rf hs 74 15 81 rfl) dX13_over_19 ?_
    refine zJ_iload_n dX13_over_22 rfl ?_
    refine zP_iald (zSt_ar hs 81 64 rfl) (by first | assumption | with_reducible exact vp_in_nI (by omega) (by omega) | (simp (disch := omega) only [nI_add, pk_mul, pk_sub, pk_div, pk_rem, nI_clamp]; with_reducible exact vp_in_nI (by omega) (by omega))) dX13_over_23 ?_
    rw [nI_clamp (by omega), hB.2.2.1 q hq]
    refine zJ_isub dX13_over_24 ?_
    refine zP_callSi [_, _] _ ls_X13_262 (k_more (d := d - 1) hl (by omega)) rfl (by omega) (Nat.le_of_ble_eq_true rfl) rfl dX13_over_25 ?_
    refine zJ_goto 32 dX13_over_28 (by decide) ?_
    refine zJ_iret rfl dX13_over_32 ?_
    exact ⟨by rw [morI0 (by omega) (by omega)]; rfl, rfl⟩
theorem k_copies (hl : l.stackTraces = false) (hd : 1 ≤ d) {a c : Nat} (ha : zAr g a 519) (hc : zAr g c 519) (hac : a ≠ c) : zD l Xi mX13_copies d [.ref a, .ref c] I g none (va_up I c (fun k => if k < 519 then I a k else I c k)) := by
  refine zC_of hl rfl rfl rfl (Nat.le_of_ble_eq_true rfl) (zav_r ha.1 (zav_r hc.1 zav_0)) ?_
  have loop : ∀ m p, p + m = 519 → zJ l Xi mX13_copies d 0 0 2 [some (.ref a), some (.ref c), some (.int (nI p))] [] (va_up I c (fun k => if k < p then I a k else I c k), g) (fun r' h' => r' = .inl none ∧ h' = (va_up I c (fun k => if k < 519 then I a k else I c k), g)) := by
    intro m
    induction m with
    | zero =>
      intro p hp
      obtain rfl : p = 519 := by omega
      refine zJ_iload_n dX13_copies_2 rfl ?_
      refine zJ_sipush (v := nI 519) dX13_copies_3 rfl ?_
      refine zJ_icmp_ge 21 dX13_copies_6 (by decide) (fun _ => ?_) (fun c6 => absurd (nI_le (by omega) (by omega)) c6)
      refine zJ_vret rfl dX13_copies_21 ?_
      exact ⟨rfl, rfl⟩
    | succ m ih =>
      intro p hp
      refine zJ_iload_n dX13_copies_2 rfl ?_
      refine zJ_sipush (v := nI 519) dX13_copies_3 rfl ?_
      refine zJ_icmp_ge 21 dX13_copies_6 (by decide) (fun c6 => absurd c6 (nI_ge (by omega) (by omega))) (fun _ => ?_)
      refine zJ_aload_n dX13_copies_9 rfl ?_
      refine zJ_iload_n dX13_copies_10 rfl ?_
      refine zJ_aload_n dX13_copies_11 rfl ?_
      refine zJ_iload_n dX13_copies_12 rfl ?_
      refine zP_iald ha (by first | assumption | with_reducible exact vp_in_nI (by omega) (by omega) | (simp (disch := omega) only [nI_add, pk_mul, pk_sub, pk_div, pk_rem, nI_clamp]; with_reducible exact vp_in_nI (by omega) (by omega))) dX13_copies_13 ?_
      refine zP_iast hc (by first | assumption | with_reducible exact vp_in_nI (by omega) (by omega) | (simp (disch := omega) only [nI_add, pk_mul, pk_sub, pk_div, pk_rem, nI_clamp]; with_reducible exact vp_in_nI (by omega) (by omega))) dX13_copies_14 ?_
      refine zJ_iinc1 dX13_copies_15 rfl (by decide) ?_
      refine zJ_goto 2 dX13_copies_18 (by decide) ?_
      refine zJ_back (zle_r (zle_r (zle_r zle_0))) ?_ (ih (p + 1) (by omega))
      rw [nI_clamp (by omega), va_up_row hac]
      refine congrArg (fun z => (z, g)) (funext fun x => funext fun y => ?_)
      by_cases e : x = c
      · subst e; rw [zup_same]; simp only [va_up, if_true]; by_cases e2 : y = p
        · subst e2; simp [upd]
        · simp only [upd, if_neg e2]; simp [show (y < p + 1) = (y < p) from propext ⟨fun h => by omega, fun h => by omega⟩]
      · rw [zup_row e]; simp [va_up, e]
  refine zJ_iconst (v := nI 0) dX13_copies_0 rfl ?_
  refine zJ_istore_m 2 dX13_copies_1 rfl (Nat.le_of_ble_eq_true rfl) (by decide) ?_
  refine zJ_eq rfl rfl ?_ (loop 519 0 (by omega))
  refine congrArg (fun z => (z, g)) (funext fun x => ?_)
  by_cases e : x = c
  · subst e; simp [va_up]
  · simp [va_up, e]
end ZRefA
