/-! ===== the reference: fewest ===== -/
section ZRefAW
variable {l : Launch} {Xi : zXi} {d : Nat} {I : zI} {g : zG}
theorem sub_ix1 : ∀ S, S < 16 → ∀ k, k < 16 → (!(subB k S) || (decide (nI S &&& (nI k ^^^ (-1)) = nI (S - k)) && decide (k ≤ S))) = true := by decide +kernel
theorem sub_ix {S k : Nat} (hS : S < 16) (hk : k < 16) (h : subB k S = true) : nI S &&& (nI k ^^^ (-1)) = nI (S - k) ∧ k ≤ S := by
  have h9 := sub_ix1 S hS k hk
  rw [h] at h9
  simp only [Bool.not_true, Bool.false_or, Bool.and_eq_true, decide_eq_true_iff] at h9
  exact h9
theorem er_less {x y c : Option Nat} (hx : ∀ v, x = some v → v ≤ 1000) (hy : ∀ v, y = some v → v ≤ 1000) (hc : ∀ v, c = some v → v ≤ 1000) : lesI (er c) (er x + er y - nI 1) = er (olt (oad x y) c) := by
  have e1 : er x + er y - nI 1 = nI (x.getD 99998 + y.getD 99998 + 1) := by
    unfold er
    rw [nI_add, pk_sub (by omega)]; congr 1; omega
  have gx : x.getD 99998 ≤ 99998 := by cases x with | none => exact Nat.le_refl _ | some v => (have := hx v rfl; show v ≤ 99998; omega)
  have gy : y.getD 99998 ≤ 99998 := by cases y with | none => exact Nat.le_refl _ | some v => (have := hy v rfl; show v ≤ 99998; omega)
  have gc : c.getD 99998 ≤ 99998 := by cases c with | none => exact Nat.le_refl _ | some v => (have := hc v rfl; show v ≤ 99998; omega)
  rw [e1]
  unfold lesI er
  by_cases z : c.getD 99998 + 1 < x.getD 99998 + y.getD 99998 + 1
  · rw [if_pos (nI_lt z (by omega))]
    congr 1
    cases x with
    | none => rfl
    | some x =>
      cases y with
      | none => rfl
      | some y =>
        cases c with
        | none => have : 99998 + 1 < x + y + 1 := z; have := hx x rfl; have := hy y rfl; omega
        | some c =>
          have z2 : c + 1 < x + y + 1 := z
          show c + 1 = (if x + y < c then some (x + y) else some c).getD 99998 + 1
          rw [if_neg (by omega)]; rfl
  · rw [if_neg (fun h => z (Nat.lt_of_not_le (fun y2 => absurd h (nI_nlt y2 (by omega)))))]
    congr 1
    cases x with
    | none =>
      show 99998 + y.getD 99998 + 1 = c.getD 99998 + 1
      have z2 : ¬ c.getD 99998 + 1 < 99998 + y.getD 99998 + 1 := z
      omega
    | some x =>
      cases y with
      | none =>
        show x + 99998 + 1 = c.getD 99998 + 1
        have z2 : ¬ c.getD 99998 + 1 < x + 99998 + 1 := z
        omega
      | some y =>
        cases c with
        | none => rfl
        | some c =>
          have z2 : ¬ c + 1 < x + y + 1 := z
          show x + y + 1 = (if x + y < c then some (x + y) else some c).getD 99998 + 1
          split
          · rfl
          · show x + y + 1 = c + 1; omega
theorem m_meets (hl : l.stackTraces = false) (hd : 2 ≤ d) (hs : zSt g) {w k : Nat} {row x y : Nat → Option Nat} (hw : w < 16) (hk : k < w) (h0 : 0 < k) (hsb : subB k w = true) (hrow : ∀ p, p < 64 → I (560 + 1 + w) p = er (row p)) (hx : ∀ p, p < 64 → I (560 + 1 + k) p = er (x p)) (hy : ∀ p, p < 64 → I (560 + 1 + (w - k)) p = er (y p)) (bx : ∀ p v, p < 64 → x p = some v → v ≤ 1000) (by' : ∀ p v, p < 64 → y p = some v → v ≤ 1000) (br : ∀ p v, p < 64 → row p = some v → v ≤ 1000) : zEv l Xi mX13_meets d [.ref 74, .int (nI w), .int (nI k)] I g (fun J => (∀ c, c ≠ 560 + 1 + w → J c = I c) ∧ ∀ p, p < 64 → J (560 + 1 + w) p = er (olt (oad (x p) (y p)) (row p))) := by
  refine zC_of hl rfl rfl rfl (Nat.le_of_ble_eq_true rfl) (zav_r (zSt_ob hs 74 13 rfl).1 (zav_i (zav_i zav_0))) ?_
  have hix := (sub_ix hw (by omega) hsb).1
  have loop : ∀ m p (J : zI), p + m = 64 → (∀ c, c ≠ 560 + 1 + w → J c = I c) → (∀ q, q < 64 → J (560 + 1 + w) q = er (if q < p then olt (oad (x q) (y q)) (row q) else row q)) → zJ l Xi mX13_meets d 0 0 2 [some (.ref 74), some (.int (nI w)), some (.int (nI k)), some (.int (nI p))] [] (J, g) (fun r' h' => r' = .inl none ∧ ∃ J, h' = (J, g) ∧ (∀ c, c ≠ 560 + 1 + w → J c = I c) ∧ ∀ p, p < 64 → J (560 + 1 + w) p = er (olt (oad (x p) (y p)) (row p))) := by
    intro m
    induction m with
    | zero =>
      intro p J hp e c
      obtain rfl : p = 64 := by omega
      refine zJ_iload_n dX13_meets_2 rfl ?_
      refine zJ_bipush (v := nI 64) dX13_meets_3 rfl ?_
      refine zJ_icmp_ge 56 dX13_meets_5 (by decide) (fun _ => ?_) (fun c5 => absurd (nI_le (by omega) (by omega)) c5)
      refine zJ_vret rfl dX13_meets_56 ?_
      exact ⟨rfl, J, rfl, e, fun q hq => by rw [c q hq, if_pos hq]⟩
    | succ m ih =>
      intro p J hp e c
      have hp64 : p < 64 := by omega
      have c1 : J (560 + 1 + w) p = er (row p) := by rw [c p hp64, if_neg (Nat.lt_irrefl _)]
      have c2 : J (560 + 1 + k) p = er (x p) := by rw [e _ (by omega)]; exact hx p hp64
      have c3 : J (560 + 1 + (w - k)) p = er (y p) := by rw [e _ (by omega)]; exact hy p hp64
      refine zJ_iload_n dX13_meets_2 rfl ?_
      refine zJ_bipush (v := nI 64) dX13_meets_3 rfl ?_
      refine zJ_icmp_ge 56 dX13_meets_5 (by decide) (fun c5 => absurd c5 (nI_ge (by omega) (by omega))) (fun _ => ?_)
      refine zJ_aload_n dX13_meets_8 rfl ?_
      refine zP_getr lf_X13_95 (zSt_ob hs 74 13 rfl) rfl (zSt_rf hs 74 45 560 rfl) dX13_meets_9 ?_
      refine zJ_iload_n dX13_meets_12 rfl ?_
      refine zP_rowK (k := w) (zSt_g560 hs) (by omega) (by decide) dX13_meets_13 ?_
      refine zJ_iload_n dX13_meets_14 rfl ?_
      refine zJ_aload_n dX13_meets_15 rfl ?_
      refine zP_getr lf_X13_95 (zSt_ob hs 74 13 rfl) rfl (zSt_rf hs 74 45 560 rfl) dX13_meets_16 ?_
      refine zJ_iload_n dX13_meets_19 rfl ?_
      refine zP_rowK (k := w) (zSt_g560 hs) (by omega) (by decide) dX13_meets_20 ?_
      refine zJ_iload_n dX13_meets_21 rfl ?_
      refine zP_iald (zGr_ar (zSt_g560 hs) (i := w) (by omega)) (by first | assumption | with_reducible exact vp_in_nI (by omega) (by omega) | (simp (disch := omega) only [nI_add, pk_mul, pk_sub, pk_div, pk_rem, nI_clamp]; with_reducible exact vp_in_nI (by omega) (by omega))) dX13_meets_22 ?_
      rw [nI_clamp (by omega), c1]
      refine zJ_aload_n dX13_meets_23 rfl ?_
      refine zP_getr lf_X13_95 (zSt_ob hs 74 13 rfl) rfl (zSt_rf hs 74 45 560 rfl) dX13_meets_24 ?_
      refine zJ_iload_n dX13_meets_27 rfl ?_
      refine zP_rowK (k := k) (zSt_g560 hs) (by omega) (by decide) dX13_meets_28 ?_
      refine zJ_iload_n dX13_meets_29 rfl ?_
      refine zP_iald (zGr_ar (zSt_g560 hs) (i := k) (by omega)) (by first | assumption | with_reducible exact vp_in_nI (by omega) (by omega) | (simp (disch := omega) only [nI_add, pk_mul, pk_sub, pk_div, pk_rem, nI_clamp]; with_reducible exact vp_in_nI (by omega) (by omega))) dX13_meets_30 ?_
      rw [nI_clamp (by omega), c2]
      refine zJ_aload_n dX13_meets_31 rfl ?_
      refine zP_getr lf_X13_95 (zSt_ob hs 74 13 rfl) rfl (zSt_rf hs 74 45 560 rfl) dX13_meets_32 ?_
      refine zJ_iload_n dX13_meets_35 rfl ?_
      refine zJ_iload_n dX13_meets_36 rfl ?_
      refine zJ_iconst (v := -1) dX13_meets_37 rfl ?_
      refine zJ_ixor dX13_meets_38 ?_
      refine zJ_iand dX13_meets_39 ?_
      rw [hix]
      refine zP_rowK (k := (w - k)) (zSt_g560 hs) (by omega) (by decide) dX13_meets_40 ?_
      refine zJ_iload_n dX13_meets_41 rfl ?_
      refine zP_iald (zGr_ar (zSt_g560 hs) (i := (w - k)) (by omega)) (by first | assumption | with_reducible exact vp_in_nI (by omega) (by omega) | (simp (disch := omega) only [nI_add, pk_mul, pk_sub, pk_div, pk_rem, nI_clamp]; with_reducible exact vp_in_nI (by omega) (by omega))) dX13_meets_42 ?_
      rw [nI_clamp (by omega), c3]
      refine zJ_iadd dX13_meets_43 ?_
      refine zJ_iconst (v := nI 1) dX13_meets_44 rfl ?_
      refine zJ_isub dX13_meets_45 ?_
      refine zP_callSi [_, _] _ ls_X13_259 (k_less (d := d - 1) hl (by omega)) rfl (by omega) (Nat.le_of_ble_eq_true rfl) rfl dX13_meets_46 ?_
      rw [er_less (bx p · hp64) (by' p · hp64) (br p · hp64)]
      refine zP_iast (zGr_ar (zSt_g560 hs) (i := w) (by omega)) (by first | assumption | with_reducible exact vp_in_nI (by omega) (by omega) | (simp (disch := omega) only [nI_add, pk_mul, pk_sub, pk_div, pk_rem, nI_clamp]; with_reducible exact vp_in_nI (by omega) (by omega))) dX13_meets_49 ?_
      refine zJ_iinc1 dX13_meets_50 rfl (by decide) ?_
      refine zJ_goto 2 dX13_meets_53 (by decide) ?_
      rw [nI_clamp (by omega)]
      refine zJ_back (zle_r (zle_r (zle_r (zle_r zle_0)))) rfl (ih (p + 1) _ (by omega) (fun q hq => by rw [zup_row hq]; exact e q hq) (fun q hq => ?_))
      rw [zup_same]
      by_cases z : q = p
      · subst z; rw [upd_at, if_pos (by omega)]
      · rw [upd_ne z, c q hq]
        by_cases z2 : q < p
        · rw [if_pos z2, if_pos (by omega)]
        · rw [if_neg z2, if_neg (by omega)]
  refine zJ_iconst (v := nI 0) dX13_meets_0 rfl ?_
  refine zJ_istore_m 3 dX13_meets_1 rfl (Nat.le_of_ble_eq_true rfl) (by decide) ?_
  exact zJ_back (zle_r (zle_r (zle_r (zle_r zle_0)))) rfl (loop 64 0 I (by omega) (fun _ _ => rfl) (fun q hq => by rw [if_neg (Nat.not_lt_zero _)]; exact hrow q hq))
theorem pow_le4 : ∀ k, k ≤ 4 → 2 ^ k ≤ 16 ∧ 1 ≤ 2 ^ k := by decide
set_option maxHeartbeats 2000000 in
theorem m_fewest (hl : l.stackTraces = false) (hd : 12 ≤ d) (hs : zSt g) {S : sT} (hI : rI I S) (hok : okS S) {n : Nat} (hn : n < bN S.2.1) : zEi l Xi mX13_fewest d [.ref 74, .int (nI n)] I g (fun v J => v = fewM S.2.1 S.2.2.1 n ∧ J 74 0 = nI 0 ∧ rQ I J) := by
  refine zC_of hl rfl rfl rfl (Nat.le_of_ble_eq_true rfl) (zav_r (zSt_ob hs 74 13 rfl).1 (zav_i zav_0)) ?_
  have hI0 := rI_rQ hI (rQ_thr (x := nI 0))
  have hB0 := hI0.2.2.1
  have hR0 := hI0.2.2.2.1
  have hb := hB0.1
  have hN6 := hb.2.2.2.2.1
  have hC8 := hb.2.1
  have hR8 := hb.2.2.2.1
  have ha := zSt_ar hs 533 519 rfl
  have hokR := hok.2.1
  obtain ⟨b, hbb⟩ : ∃ b, S.2.1 = b := ⟨_, rfl⟩
  obtain ⟨R, hRR⟩ : ∃ R, S.2.2.1 = R := ⟨_, rfl⟩
  rw [hbb, hRR] at hokR hR0
  rw [hbb] at hB0 hb hN6 hC8 hR8 hn
  obtain ⟨K0, hK0⟩ : ∃ K, zup I 74 0 (nI 0) = K := ⟨_, rfl⟩
  have hQ0 : rQ I K0 := by rw [← hK0]; exact rQ_thr
  have hT0 : K0 74 0 = nI 0 := by rw [← hK0]; exact thr_at
  have hBK : rB K0 b := by rw [← hK0]; exact hB0
  have hRK : rRow K0 533 b R := by rw [← hK0]; exact hR0
  rw [hbb, hRR]
  obtain ⟨pc, hpc⟩ : ∃ pc, bpc b n = pc := ⟨_, rfl⟩
  have hp4 : pc ≤ 4 := by rw [← hpc]; exact hb.2.2.2.2.2.1 n (by omega)
  have hpw := pow_le4 pc hp4
  have hpcI : K0 (89 + 1 + n) 2 = nI pc := by rw [← hpc]; exact (hBK.2.2.2.1 n hn).2
  have hpin : ∀ i, i < pc → K0 (103 + 1 + n) i = nI (bpn b n i) ∧ bpn b n i < 64 := fun i hi => ⟨hBK.2.2.2.2.1 n i hn (by omega), (hb.2.2.2.2.2.2.1 n i (by omega) (by omega)).1⟩
  have hall : nI 1 <<< (nI pc &&& 31) - nI 1 = nI (2 ^ pc - 1) := by rw [shl_pow pc (by omega), pk_sub hpw.2]
  obtain ⟨P, hP⟩ : ∃ P : zR → zH → Prop, P = (fun r' h' => ∃ v J, r' = .inl (some (.int v)) ∧ h' = (J, g) ∧ v = fewM b R n ∧ J 74 0 = nI 0 ∧ rQ I J) := ⟨_, rfl⟩
  rw [← hP]
  by_cases hz : pc = 0
  · skip
    refine zJ_aload_n dX13_fewest_0 rfl ?_
    refine zJ_iconst (v := nI 0) dX13_fewest_1 rfl ?_
    refine zP_puti lf_X13_107 (zSt_ob hs 74 13 rfl) rfl dX13_fewest_2 ?_
    refine zJ_aload_n dX13_fewest_5 rfl ?_
    refine zJ_aload_n dX13_fewest_6 rfl ?_
    refine zJ_iload_n dX13_fewest_7 rfl ?_
    refine zP_callVi [_] _ lv_X13_412 (m_isNet (d := d - 1) hl (by omega) hs hB0) (zSt_ob hs 74 13 rfl) rfl (by omega) (Nat.le_of_ble_eq_true rfl) rfl dX13_fewest_8 ?_
    rw [qNet_ok hb hn]
    refine zJ_if_ne 18 dX13_fewest_11 (by decide) (fun _ => ?_) (fun c11 => absurd c11 (by decide))
    refine zJ_iconst (v := nI 0) dX13_fewest_18 rfl ?_
    refine zJ_iconst (v := nI 1) dX13_fewest_19 rfl ?_
    refine zJ_iconst (v := nI 0) dX13_fewest_20 rfl ?_
    refine zP_callVi [_, _, _] _ lv_X13_186 (m_badF (d := d - 1) hl (by omega) hs thr_at) (zSt_ob hs 74 13 rfl) rfl (by omega) (Nat.le_of_ble_eq_true rfl) rfl dX13_fewest_21 ?_
    refine zJ_if_eq 29 dX13_fewest_24 (by decide) (fun _ => ?_) (fun c24 => absurd rfl c24)
    rw [hK0]
    refine zJ_iconst (v := nI 1) dX13_fewest_29 rfl ?_
    refine zJ_aload_n dX13_fewest_30 rfl ?_
    refine zP_getr lf_X13_40 (zSt_ob hs 74 13 rfl) rfl (zSt_rf hs 74 17 89 rfl) dX13_fewest_31 ?_
    refine zJ_iload_n dX13_fewest_34 rfl ?_
    refine zP_rowK (k := n) (zSt_g89 hs) (by omega) (by decide) dX13_fewest_35 ?_
    refine zJ_iconst (v := nI 2) dX13_fewest_36 rfl ?_
    refine zP_iald (zGr_ar (zSt_g89 hs) (i := n) (by omega)) (by first | assumption | with_reducible exact vp_in_nI (by omega) (by omega) | (simp (disch := omega) only [nI_add, pk_mul, pk_sub, pk_div, pk_rem, nI_clamp]; with_reducible exact vp_in_nI (by omega) (by omega))) dX13_fewest_37 ?_
    rw [nI_clamp (by omega), hpcI]
    refine zJ_ishl dX13_fewest_38 ?_
    refine zJ_iconst (v := nI 1) dX13_fewest_39 rfl ?_
    refine zJ_isub dX13_fewest_40 ?_
    rw [hall, hz]
    refine zJ_istore_m 2 dX13_fewest_41 rfl (Nat.le_of_ble_eq_true rfl) (by decide) ?_
    refine zJ_iload_n dX13_fewest_42 rfl ?_
    refine zJ_if_ne 48 dX13_fewest_43 (by decide) (fun c43 => absurd rfl c43) (fun _ => ?_)
    refine zJ_iconst (v := nI 0) dX13_fewest_46 rfl ?_
    refine zJ_iret rfl dX13_fewest_47 ?_
    rw [hP]
    refine ⟨_, K0, rfl, rfl, ?_, hT0, hQ0⟩
    unfold fewM
    rw [hpc, hz]; rfl
  obtain ⟨all, hal⟩ : ∃ all, 2 ^ pc - 1 = all := ⟨_, rfl⟩
  have hall16 : all < 16 := by omega
  have hall1 : 1 ≤ all := by
    have : 2 ≤ 2 ^ pc := by obtain ⟨j, rfl⟩ : ∃ j, pc = j + 1 := ⟨pc - 1, by omega⟩
                            rw [Nat.pow_succ]; have := (pow_le4 j (by omega)).2; omega
    omega
  rw [hal] at hall
  -- frames
  obtain ⟨E, hE⟩ : ∃ E : zI → Prop, E = fun J => ∀ c, (c < 561 ∨ 576 < c) → J c = K0 c := ⟨_, rfl⟩
  have Eup : ∀ {J K : zI} {w : Nat}, w < 16 → E J → (∀ c, c ≠ 560 + 1 + w → K c = J c) → E K := by
    intro J K w hw h1 h2
    rw [hE] at h1 ⊢
    exact fun c hc => (h2 c (by omega)).trans (h1 c hc)
  have EB : ∀ {J : zI}, E J → rB J b ∧ rRow J 533 b R ∧ J (89 + 1 + n) 2 = nI pc ∧ (∀ i, i < pc → J (103 + 1 + n) i = nI (bpn b n i)) ∧ rQ I J ∧ J 74 0 = nI 0 := by
    intro J h1
    rw [hE] at h1
    refine ⟨rB_of hBK (by rw [h1 74 (by decide)]) (fun a q => h1 a (by omega)), rRow_of hRK (h1 533 (by decide)), by rw [h1 _ (by omega)]; exact hpcI, fun i hi => by rw [h1 _ (by omega)]; exact (hpin i hi).1, rQ_trans hQ0 ⟨fun a q1 q2 q3 q4 q5 q6 => h1 a (by omega), fun k q1 q2 => by rw [h1 74 (by decide)]⟩, by rw [h1 74 (by decide)]; exact hT0⟩
  obtain ⟨T, hT⟩ : ∃ T : zI → Nat → Prop, T = fun J w => ∀ s, 0 < s → s < w → ∀ p, p < 64 → J (560 + 1 + s) p = er (FR b R n s p) := ⟨_, rfl⟩
  have Tup : ∀ {J K : zI} {w : Nat}, T J w → (∀ c, c ≠ 560 + 1 + w → K c = J c) → T K w := by
    intro J K w h1 h2
    rw [hT] at h1 ⊢
    exact fun s h0 hs p hp => by rw [h2 _ (by omega)]; exact h1 s h0 hs p hp
  have fb : ∀ s p v, 0 < s → s < 16 → p < 64 → FR b R n s p = some v → v ≤ 1000 := fun s p v h0 hs hp hv => by
    have h1 := ((FR_bd (R := R) hb (by omega) hs h0).2 p v hp hv).1
    have h2 := pop4_pos s hs h0
    omega
  have fb4 : ∀ s p v, 0 < s → s < 16 → p < 64 → FR b R n s p = some v → v ≤ 448 := fun s p v h0 hs hp hv => by
    have h1 := ((FR_bd (R := R) hb (by omega) hs h0).2 p v hp hv).1
    have h2 := pop4_pos s hs h0
    omega
  have main : ∀ m w (J : zI), w + m = all + 1 → 0 < w → E J → T J w → zJ l Xi mX13_fewest d 0 0 50 [some (.ref 74), some (.int (nI n)), some (.int (nI all)), some (.int (nI w)), none] [] (J, g) P := by
    intro m
    induction m with
    | zero =>
      intro w J hw h0 e t
      obtain ⟨b1, b2, b3, b4, b5, b6⟩ := EB e
      rw [hT] at t
      have hv := t all (by omega) (by omega) (bpn b n 0) (hpin 0 (by omega)).2
      have h40 := (hpin 0 (by omega)).2
      rw [hP]
      refine zJ_iload_n dX13_fewest_50 rfl ?_
      refine zJ_iload_n dX13_fewest_51 rfl ?_
      refine zJ_icmp_gt 172 dX13_fewest_52 (by decide) (fun _ => ?_) (fun c52 => absurd (nI_lt (by omega) (by omega)) c52)
      refine zJ_aload_n dX13_fewest_172 rfl ?_
      refine zP_getr lf_X13_95 (zSt_ob hs 74 13 rfl) rfl (zSt_rf hs 74 45 560 rfl) dX13_fewest_173 ?_
      refine zJ_iload_n dX13_fewest_176 rfl ?_
      refine zP_rowK (k := all) (zSt_g560 hs) (by omega) (by decide) dX13_fewest_177 ?_
      refine zJ_aload_n dX13_fewest_178 rfl ?_
      refine zP_getr lf_X13_46 (zSt_ob hs 74 13 rfl) rfl (zSt_rf hs 74 19 103 rfl) dX13_fewest_179 ?_
      refine zJ_iload_n dX13_fewest_182 rfl ?_
      refine zP_rowK (k := n) (zSt_g103 hs) (by omega) (by decide) dX13_fewest_183 ?_
      refine zJ_iconst (v := nI 0) dX13_fewest_184 rfl ?_
      refine zP_iald (zGr_ar (zSt_g103 hs) (i := n) (by omega)) (by first | assumption | with_reducible exact vp_in_nI (by omega) (by omega) | (simp (disch := omega) only [nI_add, pk_mul, pk_sub, pk_div, pk_rem, nI_clamp]; with_reducible exact vp_in_nI (by omega) (by omega))) dX13_fewest_185 ?_
      rw [nI_clamp (n := 0) (by omega), b4 0 (by omega)]
      refine zP_iald (zGr_ar (zSt_g560 hs) (i := all) (by omega)) (by first | assumption | with_reducible exact vp_in_nI (by omega) (by omega) | (simp (disch := omega) only [nI_add, pk_mul, pk_sub, pk_div, pk_rem, nI_clamp]; with_reducible exact vp_in_nI (by omega) (by omega))) dX13_fewest_186 ?_
      rw [nI_clamp (by omega), hv]
      refine zJ_istore_m 3 dX13_fewest_187 rfl (Nat.le_of_ble_eq_true rfl) (by decide) ?_
      refine zJ_iload_n dX13_fewest_188 rfl ?_
      refine zJ_ldc_w (v := (99999 : Int32)) lk_X13_424 dX13_fewest_189 ?_
      have hans : (match FR b R n all (bpn b n 0) with
        | none => (-1 : Int32)
        | some v => nI (v + 1)) = fewM b R n := by
        unfold fewM
        rw [hpc]
        by_cases p1 : pc = 1
        · rw [if_pos (by omega)]
          have ha1 : all = 1 := by rw [← hal, p1]
          obtain ⟨u, hu, hle⟩ : ∃ u, FR b R n 1 (bpn b n 0) = some u ∧ u ≤ 0 := by
            refine (FR_FP (by omega) _ h40).1 0 ?_
            have e9 : jnN (tabR b R n 1) 1 1 (bpn b n 0) = tabR b R n 1 1 (bpn b n 0) := rfl
            rw [e9, tabR_hi (Nat.le_refl _), hpc, p1, basR_st]
            simp
          rw [ha1, hu, show u = 0 by omega, p1]
        · rw [if_neg (by omega)]
          obtain ⟨j, hj⟩ : ∃ j, pc = j + 1 := ⟨pc - 1, by omega⟩
          have hpj := (pow_le4 j (by omega)).2
          have h2j : 2 ≤ 2 ^ j := by
            obtain ⟨i, rfl⟩ : ∃ i, j = i + 1 := ⟨j - 1, by omega⟩
            have := (pow_le4 i (by omega)).2
            rw [Nat.pow_succ]; omega
          have ha2 : all = 2 * (2 ^ j - 1) + 1 := by rw [← hal, hj, Nat.pow_succ]; omega
          have h8 : 2 ^ j - 1 < 8 := by have := hall16; omega
          rw [FR_root hall16 (by omega) (by omega) (by omega) h40, show all - 1 = 2 * (2 ^ j - 1) by omega, FR_FM h8 (by omega) _ h40, hj, Nat.add_sub_cancel, tabM_lo (by omega)]
          cases FM b R n (2 ^ j - 1) (bpn b n 0) <;> rfl
      cases hf : FR b R n all (bpn b n 0) with
      | none =>
        rw [hf] at hans
        refine zJ_icmp_lt 199 dX13_fewest_192 (by decide) (fun c192 => absurd c192 (show ¬ nI 99999 < (99999 : Int32) by decide)) (fun _ => ?_)
        refine zJ_iconst (v := -1) dX13_fewest_195 rfl ?_
        refine zJ_goto 200 dX13_fewest_196 (by decide) ?_
        refine zJ_iret rfl dX13_fewest_200 ?_
        exact ⟨_, J, rfl, rfl, hans, b6, b5⟩
      | some v =>
        rw [hf] at hans
        have hv9 := fb all _ v (by omega) hall16 h40 hf
        refine zJ_icmp_lt 199 dX13_fewest_192 (by decide) (fun _ => ?_) (fun c192 => absurd (show nI (v + 1) < (99999 : Int32) from nI_lt (b := 99999) (by omega) (by omega)) c192)
        refine zJ_iload_n dX13_fewest_199 rfl ?_
        refine zJ_iret rfl dX13_fewest_200 ?_
        exact ⟨_, J, rfl, rfl, hans, b6, b5⟩
    | succ m ih =>
      intro w J hw h0 e t
      have hw16 : w < 16 := by omega
      have jb : ∀ k, k ≤ w → ∀ p v, p < 64 → jnN (tabR b R n w) w k p = some v → v ≤ 1000 := fun k hk p v hp hv => by
        rcases jn_ex hv with z | ⟨part, x, y, p0, pS, psb, hx, hy, hvv⟩
        · rw [tabR_hi (Nat.le_refl _)] at z
          have := (basR_0 z).1; omega
        · rw [tabR_lo (by omega)] at hx
          rw [tabR_lo (by omega)] at hy
          have := fb4 part p x p0 (by omega) hp hx
          have := fb4 (w - part) p y (by omega) (by omega) hp hy
          omega
      have parts : ∀ m2 k (J : zI), k + m2 = w → 0 < k → E J → T J w → (∀ p, p < 64 → J (560 + 1 + w) p = er (jnN (tabR b R n w) w k p)) → zJ l Xi mX13_fewest d 0 0 133 [some (.ref 74), some (.int (nI n)), some (.int (nI all)), some (.int (nI w)), some (.int (nI k))] [] (J, g) P := by
        intro m2
        induction m2 with
        | zero =>
          intro k J hk k0 e t hr
          obtain rfl : k = w := by omega
          obtain ⟨b1, b2, b3, b4, b5, b6⟩ := EB e
          have hbd := (FR_bd (R := R) hb (show n < 6 by omega) hw16 h0).1
          refine zJ_iload dX13_fewest_133 rfl ?_
          refine zJ_iload_n dX13_fewest_135 rfl ?_
          refine zJ_icmp_ge 161 dX13_fewest_136 (by decide) (fun _ => ?_) (fun c136 => absurd (nI_le (by omega) (by omega)) c136)
          refine zJ_aload_n dX13_fewest_161 rfl ?_
          refine zJ_iload_n dX13_fewest_162 rfl ?_
          refine zP_ecallVv [_] _ lv_X13_428 (m_widens (M := 1000) (d := d - 1) hl (by omega) hs b1 b2 hokR hw16 (by omega) hr (fun p hp hi => by cases z : jnN (tabR b R n k) k k p with | none => rfl | some v => (have := (hbd p v hp z).2; rw [hi] at this; cases this)) (fun p v hp hv => jb k (Nat.le_refl _) p v hp hv)) (zSt_ob hs 74 13 rfl) rfl (by omega) (Nat.le_of_ble_eq_true rfl) rfl dX13_fewest_163 (fun J2 h2 => ?_)
          refine zJ_iinc1 dX13_fewest_166 rfl (by decide) ?_
          refine zJ_goto 50 dX13_fewest_169 (by decide) ?_
          refine zJ_back (zle_r (zle_r (zle_r (zle_r (zle_n zle_0))))) rfl (ih (k + 1) J2 (by omega) (by omega) (Eup hw16 e h2.1) ?_)
          have t2 := Tup t h2.1
          rw [hT] at t2 ⊢
          intro s s0 s1 p hp
          by_cases z : s = k
          · subst z; rw [h2.2 p hp, FR_eq s0]
          · exact t2 s s0 (by omega) p hp
        | succ m2 ih2 =>
          intro k J hk k0 e t hr
          have t0 := t
          rw [hT] at t0
          cases hsb : subB k w with
          | true =>
            have hsb2 := of_decide_eq_true hsb
            refine zJ_iload dX13_fewest_133 rfl ?_
            refine zJ_iload_n dX13_fewest_135 rfl ?_
            refine zJ_icmp_ge 161 dX13_fewest_136 (by decide) (fun c136 => absurd c136 (nI_ge (by omega) (by omega))) (fun _ => ?_)
            refine zJ_iload dX13_fewest_139 rfl ?_
            refine zJ_iload_n dX13_fewest_141 rfl ?_
            refine zJ_iconst (v := -1) dX13_fewest_142 rfl ?_
            refine zJ_ixor dX13_fewest_143 ?_
            refine zJ_iand dX13_fewest_144 ?_
            refine zJ_if_ne 155 dX13_fewest_145 (by decide) (fun c145 => absurd hsb2 c145) (fun _ => ?_)
            refine zJ_aload_n dX13_fewest_148 rfl ?_
            refine zJ_iload_n dX13_fewest_149 rfl ?_
            refine zJ_iload dX13_fewest_150 rfl ?_
            refine zP_ecallVv [_, _] _ lv_X13_425 (m_meets (row := jnN (tabR b R n w) w k) (x := FR b R n k) (y := FR b R n (w - k)) (d := d - 1) hl (by omega) hs hw16 (by omega) k0 hsb hr (t0 k k0 (by omega)) (t0 (w - k) (by omega) (by omega)) (fun p v hp hv => fb k p v k0 (by omega) hp hv) (fun p v hp hv => fb (w - k) p v (by omega) (by omega) hp hv) (fun p v hp hv => jb k (by omega) p v hp hv)) (zSt_ob hs 74 13 rfl) rfl (by omega) (Nat.le_of_ble_eq_true rfl) rfl dX13_fewest_152 (fun J2 h2 => ?_)
            refine zJ_iinc1 dX13_fewest_155 rfl (by decide) ?_
            refine zJ_goto 133 dX13_fewest_158 (by decide) ?_
            refine zJ_back (zle_r (zle_r (zle_r (zle_r (zle_r zle_0))))) rfl (ih2 (k + 1) J2 (by omega) (by omega) (Eup hw16 e h2.1) (Tup t h2.1) (fun p hp => ?_))
            rw [h2.2 p hp, jn_step k0, if_pos hsb, tabR_lo (by omega), tabR_lo (by omega)]
          | false =>
            have hsb2 := of_decide_eq_false hsb
            refine zJ_iload dX13_fewest_133 rfl ?_
            refine zJ_iload_n dX13_fewest_135 rfl ?_
            refine zJ_icmp_ge 161 dX13_fewest_136 (by decide) (fun c136 => absurd c136 (nI_ge (by omega) (by omega))) (fun _ => ?_)
            refine zJ_iload dX13_fewest_139 rfl ?_
            refine zJ_iload_n dX13_fewest_141 rfl ?_
            refine zJ_iconst (v := -1) dX13_fewest_142 rfl ?_
            refine zJ_ixor dX13_fewest_143 ?_
            refine zJ_iand dX13_fewest_144 ?_
            refine zJ_if_ne 155 dX13_fewest_145 (by decide) (fun _ => ?_) (fun c145 => absurd c145 hsb2)
            refine zJ_iinc1 dX13_fewest_155 rfl (by decide) ?_
            refine zJ_goto 133 dX13_fewest_158 (by decide) ?_
            refine zJ_back (zle_r (zle_r (zle_r (zle_r (zle_r zle_0))))) rfl (ih2 (k + 1) J (by omega) (by omega) e t (fun p hp => ?_))
            rw [hr p hp, jn_step k0, if_neg (by rw [hsb]; decide)]
      have pins : ∀ m2 k (J : zI), k + m2 = pc → E J → T J w → (∀ p, p < 64 → J (560 + 1 + w) p = er (basR b n k w p)) → zJ l Xi mX13_fewest d 0 0 86 [some (.ref 74), some (.int (nI n)), some (.int (nI all)), some (.int (nI w)), some (.int (nI k))] [] (J, g) P := by
        intro m2
        induction m2 with
        | zero =>
          intro k J hk e t hr
          obtain rfl : k = pc := by omega
          obtain ⟨b1, b2, b3, b4, b5, b6⟩ := EB e
          refine zJ_iload dX13_fewest_86 rfl ?_
          refine zJ_aload_n dX13_fewest_88 rfl ?_
          refine zP_getr lf_X13_40 (zSt_ob hs 74 13 rfl) rfl (zSt_rf hs 74 17 89 rfl) dX13_fewest_89 ?_
          refine zJ_iload_n dX13_fewest_92 rfl ?_
          refine zP_rowK (k := n) (zSt_g89 hs) (by omega) (by decide) dX13_fewest_93 ?_
          refine zJ_iconst (v := nI 2) dX13_fewest_94 rfl ?_
          refine zP_iald (zGr_ar (zSt_g89 hs) (i := n) (by omega)) (by first | assumption | with_reducible exact vp_in_nI (by omega) (by omega) | (simp (disch := omega) only [nI_add, pk_mul, pk_sub, pk_div, pk_rem, nI_clamp]; with_reducible exact vp_in_nI (by omega) (by omega))) dX13_fewest_95 ?_
          rw [nI_clamp (by omega), b3]
          refine zJ_icmp_ge 130 dX13_fewest_96 (by decide) (fun _ => ?_) (fun c96 => absurd (nI_le (by omega) (by omega)) c96)
          refine zJ_iconst (v := nI 1) dX13_fewest_130 rfl ?_
          refine zJ_istore dX13_fewest_131 (Nat.le_of_ble_eq_true rfl) (by decide) ?_
          refine zJ_back (zle_r (zle_r (zle_r (zle_r (zle_r zle_0))))) rfl (parts (w - 1) 1 J (by omega) (by omega) e t (fun p hp => ?_))
          have e9 : jnN (tabR b R n w) w 1 p = tabR b R n w w p := rfl
          rw [hr p hp, e9, tabR_hi (Nat.le_refl _), hpc]
        | succ m2 ih2 =>
          intro k J hk e t hr
          obtain ⟨b1, b2, b3, b4, b5, b6⟩ := EB e
          have hpk := (hpin k (by omega)).2
          have hpwk := (pow_le4 k (by omega)).1
          refine zJ_iload dX13_fewest_86 rfl ?_
          refine zJ_aload_n dX13_fewest_88 rfl ?_
          refine zP_getr lf_X13_40 (zSt_ob hs 74 13 rfl) rfl (zSt_rf hs 74 17 89 rfl) dX13_fewest_89 ?_
          refine zJ_iload_n dX13_fewest_92 rfl ?_
          refine zP_rowK (k := n) (zSt_g89 hs) (by omega) (by decide) dX13_fewest_93 ?_
          refine zJ_iconst (v := nI 2) dX13_fewest_94 rfl ?_
          refine zP_iald (zGr_ar (zSt_g89 hs) (i := n) (by omega)) (by first | assumption | with_reducible exact vp_in_nI (by omega) (by omega) | (simp (disch := omega) only [nI_add, pk_mul, pk_sub, pk_div, pk_rem, nI_clamp]; with_reducible exact vp_in_nI (by omega) (by omega))) dX13_fewest_95 ?_
          rw [nI_clamp (by omega), b3]
          refine zJ_icmp_ge 130 dX13_fewest_96 (by decide) (fun c96 => absurd c96 (nI_ge (by omega) (by omega))) (fun _ => ?_)
          refine zJ_iload_n dX13_fewest_99 rfl ?_
          refine zJ_iconst (v := nI 1) dX13_fewest_100 rfl ?_
          refine zJ_iload dX13_fewest_101 rfl ?_
          refine zJ_ishl dX13_fewest_103 ?_
          rw [shl_pow k (by omega)]
          refine zJ_icmp_ne 124 dX13_fewest_104 (by decide) (fun c104 => ?_) (fun c104 => ?_)
          · skip
            refine zJ_iinc1 dX13_fewest_124 rfl (by decide) ?_
            refine zJ_goto 86 dX13_fewest_127 (by decide) ?_
            refine zJ_back (zle_r (zle_r (zle_r (zle_r (zle_r zle_0))))) rfl (ih2 (k + 1) J (by omega) e t (fun p hp => ?_))
            rw [hr p hp, basR_st]
            simp only
            rw [if_neg (fun z => c104 (by rw [z.1]))]
          · skip
            refine zJ_aload_n dX13_fewest_107 rfl ?_
            refine zP_getr lf_X13_95 (zSt_ob hs 74 13 rfl) rfl (zSt_rf hs 74 45 560 rfl) dX13_fewest_108 ?_
            refine zJ_iload_n dX13_fewest_111 rfl ?_
            refine zP_rowK (k := w) (zSt_g560 hs) (by omega) (by decide) dX13_fewest_112 ?_
            refine zJ_aload_n dX13_fewest_113 rfl ?_
            refine zP_getr lf_X13_46 (zSt_ob hs 74 13 rfl) rfl (zSt_rf hs 74 19 103 rfl) dX13_fewest_114 ?_
            refine zJ_iload_n dX13_fewest_117 rfl ?_
            refine zP_rowK (k := n) (zSt_g103 hs) (by omega) (by decide) dX13_fewest_118 ?_
            refine zJ_iload dX13_fewest_119 rfl ?_
            refine zP_iald (zGr_ar (zSt_g103 hs) (i := n) (by omega)) (by first | assumption | with_reducible exact vp_in_nI (by omega) (by omega) | (simp (disch := omega) only [nI_add, pk_mul, pk_sub, pk_div, pk_rem, nI_clamp]; with_reducible exact vp_in_nI (by omega) (by omega))) dX13_fewest_121 ?_
            rw [nI_clamp (by omega), b4 k (by omega)]
            refine zJ_iconst (v := nI 1) dX13_fewest_122 rfl ?_
            refine zP_iast (zGr_ar (zSt_g560 hs) (i := w) (by omega)) (by first | assumption | with_reducible exact vp_in_nI (by omega) (by omega) | (simp (disch := omega) only [nI_add, pk_mul, pk_sub, pk_div, pk_rem, nI_clamp]; with_reducible exact vp_in_nI (by omega) (by omega))) dX13_fewest_123 ?_
            refine zJ_iinc1 dX13_fewest_124 rfl (by decide) ?_
            refine zJ_goto 86 dX13_fewest_127 (by decide) ?_
            have hwk : w = 2 ^ k := (nI_eq (by omega) (by omega)).mp c104
            rw [nI_clamp (by omega)]
            refine zJ_back (zle_r (zle_r (zle_r (zle_r (zle_r zle_0))))) rfl (ih2 (k + 1) _ (by omega) (Eup hw16 e (fun c hc => zup_row hc)) (Tup t (fun c hc => zup_row hc)) (fun p hp => ?_))
            rw [zup_same, basR_st]
            simp only
            by_cases z : p = bpn b n k
            · rw [z, upd_at, if_pos ⟨hwk, rfl⟩]; rfl
            · rw [upd_ne z, if_neg (fun y => z y.2)]; exact hr p hp
      have fill : ∀ m2 q (J : zI), q + m2 = 64 → E J → T J w → (∀ p, p < q → J (560 + 1 + w) p = er none) → zJ l Xi mX13_fewest d 0 0 58 [some (.ref 74), some (.int (nI n)), some (.int (nI all)), some (.int (nI w)), some (.int (nI q))] [] (J, g) P := by
        intro m2
        induction m2 with
        | zero =>
          intro q J hq e t hr
          obtain rfl : q = 64 := by omega
          refine zJ_iload dX13_fewest_58 rfl ?_
          refine zJ_bipush (v := nI 64) dX13_fewest_60 rfl ?_
          refine zJ_icmp_ge 83 dX13_fewest_62 (by decide) (fun _ => ?_) (fun c62 => absurd (nI_le (by omega) (by omega)) c62)
          refine zJ_iconst (v := nI 0) dX13_fewest_83 rfl ?_
          refine zJ_istore dX13_fewest_84 (Nat.le_of_ble_eq_true rfl) (by decide) ?_
          exact zJ_back (zle_r (zle_r (zle_r (zle_r (zle_r zle_0))))) rfl (pins pc 0 J (by omega) e t (fun p hp => hr p hp))
        | succ m2 ih2 =>
          intro q J hq e t hr
          refine zJ_iload dX13_fewest_58 rfl ?_
          refine zJ_bipush (v := nI 64) dX13_fewest_60 rfl ?_
          refine zJ_icmp_ge 83 dX13_fewest_62 (by decide) (fun c62 => absurd c62 (nI_ge (by omega) (by omega))) (fun _ => ?_)
          refine zJ_aload_n dX13_fewest_65 rfl ?_
          refine zP_getr lf_X13_95 (zSt_ob hs 74 13 rfl) rfl (zSt_rf hs 74 45 560 rfl) dX13_fewest_66 ?_
          refine zJ_iload_n dX13_fewest_69 rfl ?_
          refine zP_rowK (k := w) (zSt_g560 hs) (by omega) (by decide) dX13_fewest_70 ?_
          refine zJ_iload dX13_fewest_71 rfl ?_
          refine zJ_ldc_w (v := (99999 : Int32)) lk_X13_424 dX13_fewest_73 ?_
          refine zP_iast (zGr_ar (zSt_g560 hs) (i := w) (by omega)) (by first | assumption | with_reducible exact vp_in_nI (by omega) (by omega) | (simp (disch := omega) only [nI_add, pk_mul, pk_sub, pk_div, pk_rem, nI_clamp]; with_reducible exact vp_in_nI (by omega) (by omega))) dX13_fewest_76 ?_
          refine zJ_iinc1 dX13_fewest_77 rfl (by decide) ?_
          refine zJ_goto 58 dX13_fewest_80 (by decide) ?_
          rw [nI_clamp (by omega)]
          refine zJ_back (zle_r (zle_r (zle_r (zle_r (zle_r zle_0))))) rfl (ih2 (q + 1) _ (by omega) (Eup hw16 e (fun c hc => zup_row hc)) (Tup t (fun c hc => zup_row hc)) (fun p hp => ?_))
          rw [zup_same]
          by_cases z : p = q
          · rw [z, upd_at]; rfl
          · rw [upd_ne z]; exact hr p (by omega)
      refine zJ_iload_n dX13_fewest_50 rfl ?_
      refine zJ_iload_n dX13_fewest_51 rfl ?_
      refine zJ_icmp_gt 172 dX13_fewest_52 (by decide) (fun c52 => absurd c52 (nI_nlt (by omega) (by omega))) (fun _ => ?_)
      refine zJ_iconst (v := nI 0) dX13_fewest_55 rfl ?_
      refine zJ_istore dX13_fewest_56 (Nat.le_of_ble_eq_true rfl) (by decide) ?_
      exact zJ_back (zle_r (zle_r (zle_r (zle_r (zle_r zle_0))))) rfl (fill 64 0 J (by omega) e t (fun p hp => absurd hp (Nat.not_lt_zero _)))
  refine zJ_aload_n dX13_fewest_0 rfl ?_
  refine zJ_iconst (v := nI 0) dX13_fewest_1 rfl ?_
  refine zP_puti lf_X13_107 (zSt_ob hs 74 13 rfl) rfl dX13_fewest_2 ?_
  refine zJ_aload_n dX13_fewest_5 rfl ?_
  refine zJ_aload_n dX13_fewest_6 rfl ?_
  refine zJ_iload_n dX13_fewest_7 rfl ?_
  refine zP_callVi [_] _ lv_X13_412 (m_isNet (d := d - 1) hl (by omega) hs hB0) (zSt_ob hs 74 13 rfl) rfl (by omega) (Nat.le_of_ble_eq_true rfl) rfl dX13_fewest_8 ?_
  rw [qNet_ok hb hn]
  refine zJ_if_ne 18 dX13_fewest_11 (by decide) (fun _ => ?_) (fun c11 => absurd c11 (by decide))
  refine zJ_iconst (v := nI 0) dX13_fewest_18 rfl ?_
  refine zJ_iconst (v := nI 1) dX13_fewest_19 rfl ?_
  refine zJ_iconst (v := nI 0) dX13_fewest_20 rfl ?_
  refine zP_callVi [_, _, _] _ lv_X13_186 (m_badF (d := d - 1) hl (by omega) hs thr_at) (zSt_ob hs 74 13 rfl) rfl (by omega) (Nat.le_of_ble_eq_true rfl) rfl dX13_fewest_21 ?_
  refine zJ_if_eq 29 dX13_fewest_24 (by decide) (fun _ => ?_) (fun c24 => absurd rfl c24)
  rw [hK0]
  refine zJ_iconst (v := nI 1) dX13_fewest_29 rfl ?_
  refine zJ_aload_n dX13_fewest_30 rfl ?_
  refine zP_getr lf_X13_40 (zSt_ob hs 74 13 rfl) rfl (zSt_rf hs 74 17 89 rfl) dX13_fewest_31 ?_
  refine zJ_iload_n dX13_fewest_34 rfl ?_
  refine zP_rowK (k := n) (zSt_g89 hs) (by omega) (by decide) dX13_fewest_35 ?_
  refine zJ_iconst (v := nI 2) dX13_fewest_36 rfl ?_
  refine zP_iald (zGr_ar (zSt_g89 hs) (i := n) (by omega)) (by first | assumption | with_reducible exact vp_in_nI (by omega) (by omega) | (simp (disch := omega) only [nI_add, pk_mul, pk_sub, pk_div, pk_rem, nI_clamp]; with_reducible exact vp_in_nI (by omega) (by omega))) dX13_fewest_37 ?_
  rw [nI_clamp (by omega), hpcI]
  refine zJ_ishl dX13_fewest_38 ?_
  refine zJ_iconst (v := nI 1) dX13_fewest_39 rfl ?_
  refine zJ_isub dX13_fewest_40 ?_
  rw [hall]
  refine zJ_istore_m 2 dX13_fewest_41 rfl (Nat.le_of_ble_eq_true rfl) (by decide) ?_
  refine zJ_iload_n dX13_fewest_42 rfl ?_
  refine zJ_if_ne 48 dX13_fewest_43 (by decide) (fun _ => ?_) (fun c43 => absurd c43 (nI_ne0 (by omega) (by omega)))
  refine zJ_iconst (v := nI 1) dX13_fewest_48 rfl ?_
  refine zJ_istore_m 3 dX13_fewest_49 rfl (Nat.le_of_ble_eq_true rfl) (by decide) ?_
  exact zJ_back (zle_r (zle_r (zle_r (zle_r (zle_n zle_0))))) rfl (main all 1 K0 (by omega) (by omega) (by rw [hE]; exact fun _ _ => rfl) (by rw [hT]; exact fun s h0 h1 => by omega))
end ZRefAW
