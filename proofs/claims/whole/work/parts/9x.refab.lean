/-! ===== the reference: seasons ===== -/
section ZRefAB
variable {l : Launch} {Xi : zXi} {d : Nat} {I : zI} {g : zG}
theorem drI_eq {s : Int32} : (s >>> (nI 16 &&& 31)) &&& nI 32767 = nI (s.toBitVec.toNat / 2 ^ 16 % 2 ^ 15) := by
  rw [pk_and _ 15 (by decide)]
  have h := pk_shr s (nI 16 &&& 31) 16 (by decide)
  obtain ⟨y, hy⟩ : ∃ y, s >>> (nI 16 &&& 31) = y := ⟨_, rfl⟩
  rw [hy] at h ⊢
  have e1 : y.toInt = if 2 * y.toBitVec.toNat < 2 ^ 32 then (y.toBitVec.toNat : Int) else y.toBitVec.toNat - ((2 ^ 32 : Nat) : Int) := BitVec.toInt_eq_toNat_cond y.toBitVec
  have e2 : s.toInt = if 2 * s.toBitVec.toNat < 2 ^ 32 then (s.toBitVec.toNat : Int) else s.toBitVec.toNat - ((2 ^ 32 : Nat) : Int) := BitVec.toInt_eq_toNat_cond s.toBitVec
  rw [Int.shiftRight_eq_div_pow] at h
  have h1 := y.toBitVec.isLt
  have h2 := s.toBitVec.isLt
  have hh : y.toBitVec.toNat % 2 ^ 15 = s.toBitVec.toNat / 2 ^ 16 % 2 ^ 15 := by
    split at e1 <;> split at e2 <;> omega
  rw [hh]
theorem m_draw (hl : l.stackTraces = false) (hd : 1 ≤ d) (hs : zSt g) {s : Int32} {k : Nat} (hk : 0 < k) (hk2 : k < 100) (h : I 74 47 = s) : zD l Xi mX13_draw d [.ref 74, .int (nI k)] I g (some (.int (nI (drN (sdN s) k)))) (zup I 74 47 (sdN s)) := by
  refine zC_of hl rfl rfl rfl (Nat.le_of_ble_eq_true rfl) (zav_r (zSt_ob hs 74 13 rfl).1 (zav_i zav_0)) ?_
  have hlt : (sdN s).toBitVec.toNat / 2 ^ 16 % 2 ^ 15 < 2 ^ 15 := Nat.mod_lt _ (by decide)
  refine zJ_aload_n dX13_draw_0 rfl ?_
  refine zJ_aload_n dX13_draw_1 rfl ?_
  refine zP_geti lf_X13_446 (zSt_ob hs 74 13 rfl) rfl dX13_draw_2 ?_
  rw [h]
  refine zJ_ldc_w (v := (1103515245 : Int32)) lk_X13_449 dX13_draw_5 ?_
  refine zJ_imul dX13_draw_8 ?_
  refine zJ_sipush (v := nI 12345) dX13_draw_9 rfl ?_
  refine zJ_iadd dX13_draw_12 ?_
  refine zP_puti lf_X13_446 (zSt_ob hs 74 13 rfl) rfl dX13_draw_13 ?_
  refine zJ_aload_n dX13_draw_16 rfl ?_
  refine zP_geti lf_X13_446 (zSt_ob hs 74 13 rfl) rfl dX13_draw_17 ?_
  rw [zup_same, upd_at]
  refine zJ_bipush (v := nI 16) dX13_draw_20 rfl ?_
  refine zJ_ishr dX13_draw_22 ?_
  refine zJ_sipush (v := nI 32767) dX13_draw_23 rfl ?_
  refine zJ_iand dX13_draw_26 ?_
  rw [show s * 1103515245 + nI 12345 = sdN s from rfl, drI_eq]
  refine zJ_iload_n dX13_draw_27 rfl ?_
  refine zJ_irem dX13_draw_28 (nI_ne0 hk (by omega)) ?_
  rw [pk_rem (by omega) hk (by omega)]
  refine zJ_iret rfl dX13_draw_29 ?_
  exact ⟨rfl, rfl⟩
theorem rQ_lots {x : Int32} : rQ I (zup I 74 47 x) := ⟨fun a q1 _ _ _ _ _ => zup_row q1, fun k _ q2 => by rw [zup_same, upd_ne q2]⟩
theorem rQ_on {J : zI} (h : fOn 534 I J) : rQ I J := ⟨fun c _ _ _ q4 _ _ => h c q4, fun k _ _ => by rw [h 74 (by decide)]⟩
set_option maxHeartbeats 1000000 in
theorem m_onceBy (hl : l.stackTraces = false) (hd : 9 ≤ d) (hs : zSt g) {b : zWo} {s : Int32} {R : rwT} {q : Nat} (hq : q ≤ 16) (hB : rB I b) (hg : gnOk b) (hN : 0 < bN b) (hR : rRow I 534 b R) (hok : okR b R) (h : I 74 47 = s) : zEv l Xi mX13_onceBy d [.ref 74, .ref 534, .int (nI q)] I g (fun J => rQ I J ∧ J 74 0 = I 74 0 ∧ J 74 47 = (oncM b q (s, R)).1 ∧ rRow J 534 b (oncM b q (s, R)).2) := by
  refine zC_of hl rfl rfl rfl (Nat.le_of_ble_eq_true rfl) (zav_r (zSt_ob hs 74 13 rfl).1 (zav_r (zSt_ar hs 534 519 rfl).1 (zav_i zav_0))) ?_
  have hb := hB.1
  have hN6 := hb.2.2.2.2.1
  have ha := zSt_ar hs 534 519 rfl
  obtain ⟨n, hn⟩ : ∃ n, drN (sdN s) (bN b) = n := ⟨_, rfl⟩
  obtain ⟨k, hk⟩ : ∃ k, drN (sdN (sdN s)) 8 = k := ⟨_, rfl⟩
  have hnN : n < bN b := by rw [← hn]; exact drN_lt hN
  have hk8 : k < 8 := by rw [← hk]; exact drN_lt (by decide)
  have hde := deed_eq (b := b) (R := R) hn hk
  obtain ⟨t, ht⟩ : ∃ t, deedM b (s, R) = t := ⟨_, rfl⟩
  have hu : oncM b q (s, R) = (sdN t.1, if drN (sdN t.1) 16 < q then easM t.2 (nI 1) else t.2) := by rw [← ht]; unfold oncM; simp only [if_pos hN]
  rw [ht] at hde
  obtain ⟨P, hP⟩ : ∃ P : zR → zH → Prop, P = (fun r' h' => r' = .inl none ∧ ∃ I', h' = (I', g) ∧ rQ I I' ∧ I' 74 0 = I 74 0 ∧ I' 74 47 = (oncM b q (s, R)).1 ∧ rRow I' 534 b (oncM b q (s, R)).2) := ⟨_, rfl⟩
  have h76 : ∀ (J : zI), rQ I J → J 74 0 = I 74 0 → J 74 47 = t.1 → rRow J 534 b t.2 → zJ l Xi mX13_onceBy d 0 0 76 [some (.ref 74), some (.ref 534), some (.int (nI q)), some (.int (nI n)), some (.int (nI k))] [] (J, g) P := by
    intro J hJQ hJ0 h47 hr
    have hdr := drN_lt (s := sdN t.1) (k := 16) (by decide)
    have hr1 : rRow (zup J 74 47 (sdN t.1)) 534 b t.2 := rRow_of hr (zup_row (by decide))
    have h00 : zup J 74 47 (sdN t.1) 74 0 = I 74 0 := by rw [zup_same, upd_ne (by decide)]; exact hJ0
    rw [hP, hu]
    refine zJ_aload_n dX13_onceBy_76 rfl ?_
    refine zJ_bipush (v := nI 16) dX13_onceBy_77 rfl ?_
    refine zP_callVi [_] _ lv_X13_450 (m_draw (k := 16) (d := d - 1) hl (by omega) hs (by decide) (by decide) h47) (zSt_ob hs 74 13 rfl) rfl (by omega) (Nat.le_of_ble_eq_true rfl) rfl dX13_onceBy_79 ?_
    refine zJ_iload_n dX13_onceBy_82 rfl ?_
    refine zJ_icmp_ge 91 dX13_onceBy_83 (by decide) (fun c83 => ?_) (fun c83 => ?_)
    · skip
      refine zJ_vret rfl dX13_onceBy_91 ?_
      have e : ¬ drN (sdN t.1) 16 < q := fun z => absurd c83 (nI_ge z (by omega))
      rw [if_neg e]
      exact ⟨rfl, _, rfl, rQ_trans hJQ rQ_lots, h00, by rw [zup_same, upd_at], hr1⟩
    · skip
      refine zJ_aload_n dX13_onceBy_86 rfl ?_
      refine zJ_iconst (v := nI 1) dX13_onceBy_87 rfl ?_
      refine zP_ecallSv [_, _] _ ls_X13_363 (m_eases (d := d - 1) hl (by omega) ha hr1 hN6) rfl (by omega) (Nat.le_of_ble_eq_true rfl) rfl dX13_onceBy_88 (fun K hK => ?_)
      refine zJ_vret rfl dX13_onceBy_91 ?_
      have e : drN (sdN t.1) 16 < q := Nat.lt_of_not_le (fun z => c83 (nI_le z (by omega)))
      rw [if_pos e]
      exact ⟨rfl, K, rfl, rQ_trans (rQ_trans hJQ rQ_lots) (rQ_on hK.1), by rw [hK.1 74 (by decide)]; exact h00, by rw [hK.1 74 (by decide), zup_same, upd_at], hK.2⟩
  obtain ⟨J1, hJ1⟩ : ∃ J, zup (zup I 74 47 (sdN s)) 74 47 (sdN (sdN s)) = J := ⟨_, rfl⟩
  have q1 : rQ I J1 := by rw [← hJ1]; exact rQ_trans rQ_lots rQ_lots
  have q2 : J1 74 0 = I 74 0 := by rw [← hJ1, zup_same, upd_ne (by decide), zup_same, upd_ne (by decide)]
  have q3 : J1 74 47 = sdN (sdN s) := by rw [← hJ1, zup_same, upd_at]
  have q4 : rRow J1 534 b R := rRow_of hR (by rw [← hJ1, zup_row (by decide), zup_row (by decide)])
  have hB1 : rB J1 b := rB_rQ hB q1
  have hd1 : ∀ {d : Nat}, 1 ≤ d → zD l Xi mX13_draw d [.ref 74, .int (nI (bN b))] I g (some (.int (nI n))) (zup I 74 47 (sdN s)) := fun h9 => by rw [← hn]; exact m_draw hl h9 hs hN (by omega) h
  have hd2 : ∀ {d : Nat}, 1 ≤ d → zD l Xi mX13_draw d [.ref 74, .int (nI 8)] (zup I 74 47 (sdN s)) g (some (.int (nI k))) J1 := fun h9 => by rw [← hk, ← hJ1]; exact m_draw hl h9 hs (by decide) (by decide) (by rw [zup_same, upd_at])
  have hNN : I 78 (nI 2).toNatClampNeg = nI (bN b) := by rw [nI_clamp (by omega)]; exact hB.2.1.2.2.1
  rw [← hP]
  by_cases k0 : k = 0
  · rw [if_pos k0] at hde
    subst k0
    refine zJ_aload_n dX13_onceBy_0 rfl ?_
    refine zJ_aload_n dX13_onceBy_1 rfl ?_
    refine zP_getr lf_X13_23 (zSt_ob hs 74 13 rfl) rfl (zSt_rf hs 74 12 78 rfl) dX13_onceBy_2 ?_
    refine zJ_iconst (v := nI 2) dX13_onceBy_5 rfl ?_
    refine zP_iald (zSt_ar hs 78 4 rfl) (by first | assumption | with_reducible exact vp_in_nI (by omega) (by omega) | (simp (disch := omega) only [nI_add, pk_mul, pk_sub, pk_div, pk_rem, nI_clamp]; with_reducible exact vp_in_nI (by omega) (by omega))) dX13_onceBy_6 ?_
    rw [hNN]
    refine zP_callVi [_] _ lv_X13_450 (hd1 (d := d - 1) (by omega)) (zSt_ob hs 74 13 rfl) rfl (by omega) (Nat.le_of_ble_eq_true rfl) rfl dX13_onceBy_7 ?_
    refine zJ_istore_m 3 dX13_onceBy_10 rfl (Nat.le_of_ble_eq_true rfl) (by decide) ?_
    refine zJ_aload_n dX13_onceBy_11 rfl ?_
    refine zJ_bipush (v := nI 8) dX13_onceBy_12 rfl ?_
    refine zP_callVi [_] _ lv_X13_450 (hd2 (d := d - 1) (by omega)) (zSt_ob hs 74 13 rfl) rfl (by omega) (Nat.le_of_ble_eq_true rfl) rfl dX13_onceBy_14 ?_
    refine zJ_istore dX13_onceBy_17 (Nat.le_of_ble_eq_true rfl) (by decide) ?_
    refine zJ_iload dX13_onceBy_19 rfl ?_
    refine zJ_if_ne 34 dX13_onceBy_21 (by decide) (fun c21 => absurd rfl c21) (fun _ => ?_)
    refine zJ_aload_n dX13_onceBy_24 rfl ?_
    refine zJ_aload_n dX13_onceBy_25 rfl ?_
    refine zJ_iload_n dX13_onceBy_26 rfl ?_
    refine zP_ecallVi [_, _] _ lv_X13_354 (m_rips (d := d - 1) hl (by omega) hs ha q4 hN6 (by omega)) (zSt_ob hs 74 13 rfl) rfl (by omega) (Nat.le_of_ble_eq_true rfl) rfl dX13_onceBy_27 (fun x J hx => ?_)
    refine zJ_pop dX13_onceBy_30 rfl ?_
    refine zJ_goto 76 dX13_onceBy_31 (by decide) ?_
    exact zJ_back (zle_r (zle_r (zle_r (zle_r (zle_r zle_0))))) rfl (h76 J (rQ_trans q1 (rQ_on hx.2.1)) (by rw [hx.2.1 74 (by decide)]; exact q2) (by rw [hx.2.1 74 (by decide), q3, hde]) (by rw [hde]; exact hx.2.2))
  rw [if_neg k0] at hde
  by_cases k1 : k = 1 ∨ k = 2
  · rw [if_pos k1] at hde
    refine zJ_aload_n dX13_onceBy_0 rfl ?_
    refine zJ_aload_n dX13_onceBy_1 rfl ?_
    refine zP_getr lf_X13_23 (zSt_ob hs 74 13 rfl) rfl (zSt_rf hs 74 12 78 rfl) dX13_onceBy_2 ?_
    refine zJ_iconst (v := nI 2) dX13_onceBy_5 rfl ?_
    refine zP_iald (zSt_ar hs 78 4 rfl) (by first | assumption | with_reducible exact vp_in_nI (by omega) (by omega) | (simp (disch := omega) only [nI_add, pk_mul, pk_sub, pk_div, pk_rem, nI_clamp]; with_reducible exact vp_in_nI (by omega) (by omega))) dX13_onceBy_6 ?_
    rw [hNN]
    refine zP_callVi [_] _ lv_X13_450 (hd1 (d := d - 1) (by omega)) (zSt_ob hs 74 13 rfl) rfl (by omega) (Nat.le_of_ble_eq_true rfl) rfl dX13_onceBy_7 ?_
    refine zJ_istore_m 3 dX13_onceBy_10 rfl (Nat.le_of_ble_eq_true rfl) (by decide) ?_
    refine zJ_aload_n dX13_onceBy_11 rfl ?_
    refine zJ_bipush (v := nI 8) dX13_onceBy_12 rfl ?_
    refine zP_callVi [_] _ lv_X13_450 (hd2 (d := d - 1) (by omega)) (zSt_ob hs 74 13 rfl) rfl (by omega) (Nat.le_of_ble_eq_true rfl) rfl dX13_onceBy_14 ?_
    refine zJ_istore dX13_onceBy_17 (Nat.le_of_ble_eq_true rfl) (by decide) ?_
    refine zJ_iload dX13_onceBy_19 rfl ?_
    refine zJ_if_ne 34 dX13_onceBy_21 (by decide) (fun _ => ?_) (fun c21 => absurd c21 (nI_ne0 (by omega) (by omega)))
    refine zJ_iload dX13_onceBy_34 rfl ?_
    refine zJ_iconst (v := nI 3) dX13_onceBy_36 rfl ?_
    refine zJ_icmp_ge 50 dX13_onceBy_37 (by decide) (fun c37 => absurd c37 (nI_ge (by omega) (by omega))) (fun _ => ?_)
    refine zJ_aload_n dX13_onceBy_40 rfl ?_
    refine zJ_aload_n dX13_onceBy_41 rfl ?_
    refine zJ_iload_n dX13_onceBy_42 rfl ?_
    refine zP_ecallVi [_, _] _ lv_X13_351 (m_laysOne (d := d - 1) hl (by omega) hs hB1 ha (by omega) q4 hok hnN) (zSt_ob hs 74 13 rfl) rfl (by omega) (Nat.le_of_ble_eq_true rfl) rfl dX13_onceBy_43 (fun x J hx => ?_)
    refine zJ_pop dX13_onceBy_46 rfl ?_
    refine zJ_goto 76 dX13_onceBy_47 (by decide) ?_
    have e74 : J 74 = J1 74 := hx.2.1 74 (by decide) (by decide) (by decide) (by decide) (by decide)
    exact zJ_back (zle_r (zle_r (zle_r (zle_r (zle_r zle_0))))) rfl (h76 J (rQ_trans q1 (rQ_rS (by omega) (rS_rH hx.2.1))) (by rw [e74]; exact q2) (by rw [e74, q3, hde]) (by rw [hde]; exact hx.2.2))
  rw [if_neg k1] at hde
  by_cases k3 : k = 3
  · rw [if_pos k3] at hde
    subst k3
    have hR2 : rRow (zup J1 74 47 (sdN (sdN (sdN s)))) 534 b R := rRow_of q4 (zup_row (by decide))
    refine zJ_aload_n dX13_onceBy_0 rfl ?_
    refine zJ_aload_n dX13_onceBy_1 rfl ?_
    refine zP_getr lf_X13_23 (zSt_ob hs 74 13 rfl) rfl (zSt_rf hs 74 12 78 rfl) dX13_onceBy_2 ?_
    refine zJ_iconst (v := nI 2) dX13_onceBy_5 rfl ?_
    refine zP_iald (zSt_ar hs 78 4 rfl) (by first | assumption | with_reducible exact vp_in_nI (by omega) (by omega) | (simp (disch := omega) only [nI_add, pk_mul, pk_sub, pk_div, pk_rem, nI_clamp]; with_reducible exact vp_in_nI (by omega) (by omega))) dX13_onceBy_6 ?_
    rw [hNN]
    refine zP_callVi [_] _ lv_X13_450 (hd1 (d := d - 1) (by omega)) (zSt_ob hs 74 13 rfl) rfl (by omega) (Nat.le_of_ble_eq_true rfl) rfl dX13_onceBy_7 ?_
    refine zJ_istore_m 3 dX13_onceBy_10 rfl (Nat.le_of_ble_eq_true rfl) (by decide) ?_
    refine zJ_aload_n dX13_onceBy_11 rfl ?_
    refine zJ_bipush (v := nI 8) dX13_onceBy_12 rfl ?_
    refine zP_callVi [_] _ lv_X13_450 (hd2 (d := d - 1) (by omega)) (zSt_ob hs 74 13 rfl) rfl (by omega) (Nat.le_of_ble_eq_true rfl) rfl dX13_onceBy_14 ?_
    refine zJ_istore dX13_onceBy_17 (Nat.le_of_ble_eq_true rfl) (by decide) ?_
    refine zJ_iload dX13_onceBy_19 rfl ?_
    refine zJ_if_ne 34 dX13_onceBy_21 (by decide) (fun _ => ?_) (fun c21 => absurd c21 (by decide))
    refine zJ_iload dX13_onceBy_34 rfl ?_
    refine zJ_iconst (v := nI 3) dX13_onceBy_36 rfl ?_
    refine zJ_icmp_ge 50 dX13_onceBy_37 (by decide) (fun _ => ?_) (fun c37 => absurd (nI_le (by omega) (by omega)) c37)
    refine zJ_iload dX13_onceBy_50 rfl ?_
    refine zJ_iconst (v := nI 3) dX13_onceBy_52 rfl ?_
    refine zJ_icmp_ne 71 dX13_onceBy_53 (by decide) (fun c53 => absurd rfl c53) (fun _ => ?_)
    refine zJ_aload_n dX13_onceBy_56 rfl ?_
    refine zJ_iload_n dX13_onceBy_57 rfl ?_
    refine zJ_aload_n dX13_onceBy_58 rfl ?_
    refine zJ_bipush (v := nI 10) dX13_onceBy_59 rfl ?_
    refine zP_callVi [_] _ lv_X13_450 (m_draw (k := 10) (d := d - 1) hl (by omega) hs (by decide) (by decide) q3) (zSt_ob hs 74 13 rfl) rfl (by omega) (Nat.le_of_ble_eq_true rfl) rfl dX13_onceBy_61 ?_
    refine zP_ecallSi [_, _, _] _ ls_X13_357 (m_crits (d := d - 1) hl (by omega) ha hR2 hnN hN6) rfl (by omega) (Nat.le_of_ble_eq_true rfl) rfl dX13_onceBy_64 (fun x J hx => ?_)
    refine zJ_pop dX13_onceBy_67 rfl ?_
    refine zJ_goto 76 dX13_onceBy_68 (by decide) ?_
    exact zJ_back (zle_r (zle_r (zle_r (zle_r (zle_r zle_0))))) rfl (h76 J (rQ_trans (rQ_trans q1 rQ_lots) (rQ_on hx.2.1)) (by rw [hx.2.1 74 (by decide), zup_same, upd_ne (by decide)]; exact q2) (by rw [hx.2.1 74 (by decide), zup_same, upd_at, hde]) (by rw [hde]; exact hx.2.2))
  · rw [if_neg k3] at hde
    refine zJ_aload_n dX13_onceBy_0 rfl ?_
    refine zJ_aload_n dX13_onceBy_1 rfl ?_
    refine zP_getr lf_X13_23 (zSt_ob hs 74 13 rfl) rfl (zSt_rf hs 74 12 78 rfl) dX13_onceBy_2 ?_
    refine zJ_iconst (v := nI 2) dX13_onceBy_5 rfl ?_
    refine zP_iald (zSt_ar hs 78 4 rfl) (by first | assumption | with_reducible exact vp_in_nI (by omega) (by omega) | (simp (disch := omega) only [nI_add, pk_mul, pk_sub, pk_div, pk_rem, nI_clamp]; with_reducible exact vp_in_nI (by omega) (by omega))) dX13_onceBy_6 ?_
    rw [hNN]
    refine zP_callVi [_] _ lv_X13_450 (hd1 (d := d - 1) (by omega)) (zSt_ob hs 74 13 rfl) rfl (by omega) (Nat.le_of_ble_eq_true rfl) rfl dX13_onceBy_7 ?_
    refine zJ_istore_m 3 dX13_onceBy_10 rfl (Nat.le_of_ble_eq_true rfl) (by decide) ?_
    refine zJ_aload_n dX13_onceBy_11 rfl ?_
    refine zJ_bipush (v := nI 8) dX13_onceBy_12 rfl ?_
    refine zP_callVi [_] _ lv_X13_450 (hd2 (d := d - 1) (by omega)) (zSt_ob hs 74 13 rfl) rfl (by omega) (Nat.le_of_ble_eq_true rfl) rfl dX13_onceBy_14 ?_
    refine zJ_istore dX13_onceBy_17 (Nat.le_of_ble_eq_true rfl) (by decide) ?_
    refine zJ_iload dX13_onceBy_19 rfl ?_
    refine zJ_if_ne 34 dX13_onceBy_21 (by decide) (fun _ => ?_) (fun c21 => absurd c21 (nI_ne0 (by omega) (by omega)))
    refine zJ_iload dX13_onceBy_34 rfl ?_
    refine zJ_iconst (v := nI 3) dX13_onceBy_36 rfl ?_
    refine zJ_icmp_ge 50 dX13_onceBy_37 (by decide) (fun _ => ?_) (fun c37 => absurd (nI_le (by omega) (by omega)) c37)
    refine zJ_iload dX13_onceBy_50 rfl ?_
    refine zJ_iconst (v := nI 3) dX13_onceBy_52 rfl ?_
    refine zJ_icmp_ne 71 dX13_onceBy_53 (by decide) (fun _ => ?_) (fun c53 => absurd c53 (fun z => k3 ((nI_eq (by omega) (by omega)).mp z)))
    refine zJ_aload_n dX13_onceBy_71 rfl ?_
    refine zJ_aload_n dX13_onceBy_72 rfl ?_
    refine zP_ecallVv [_] _ lv_X13_347 (m_roundEnds (d := d - 1) hl (by omega) hs hB1 ha (by omega) q4 hok hg) (zSt_ob hs 74 13 rfl) rfl (by omega) (Nat.le_of_ble_eq_true rfl) rfl dX13_onceBy_73 (fun J hJ => ?_)
    have e74 : J 74 = J1 74 := hJ.1 74 (by decide) (by decide) (by decide) (by decide) (by decide) (by decide)
    exact zJ_back (zle_r (zle_r (zle_r (zle_r (zle_r zle_0))))) rfl (h76 J (rQ_trans q1 (rQ_rS (by omega) hJ.1)) (by rw [e74]; exact q2) (by rw [e74, q3, hde]) (by rw [hde]; exact hJ.2))
noncomputable def seaR (b : zWo) (q : Nat) (s : Int32) (R : rwT) (m : Nat) : rwT := if 0 < bN b then (seaM b q (s, R) m).2 else R
theorem seaR_ok {b : zWo} {q m : Nat} {s : Int32} {R : rwT} (hb : bdOk b) (hg : gnOk b) (h : okR b R) : okR b (seaR b q s R m) := by
  unfold seaR
  split
  · exact sea_ok hb hg h m
  · exact h
theorem m_seasonBy (hl : l.stackTraces = false) (hd : 10 ≤ d) (hs : zSt g) {S : sT} (hI : rI I S) (hok : okS S) {s : Int32} {m q : Nat} (hm : m ≤ 40) (hq : q ≤ 16) : zEv l Xi mX13_seasonBy d [.ref 74, .int s, .int (nI m), .int (nI q)] I g (fun J => rQ I J ∧ J 74 0 = I 74 0 ∧ rRow J 534 S.2.1 (seaR S.2.1 q s S.2.2.1 m)) := by
  refine zC_of hl rfl rfl rfl (Nat.le_of_ble_eq_true rfl) (zav_r (zSt_ob hs 74 13 rfl).1 (zav_i (zav_i (zav_i zav_0)))) ?_
  have hb := hI.2.2.1.1
  have hN6 := hb.2.2.2.2.1
  have ha := zSt_ar hs 533 519 rfl
  have ha2 := zSt_ar hs 534 519 rfl
  obtain ⟨J, hJ⟩ : ∃ J, zup (va_up I 534 (fun k => if k < 519 then I 533 k else I 534 k)) 74 47 s = J := ⟨_, rfl⟩
  have hRJ : rRow J 534 S.2.1 S.2.2.1 := rRow_of (copy_row hN6 (by decide) hI.2.2.2.1) (by rw [← hJ, zup_row (by decide)])
  have hJQ : rQ I J := by rw [← hJ]; exact rQ_trans ⟨fun c q1 q2 q3 q4 q5 q6 => va_up_row q4, fun k q1 q2 => by rw [va_up_row (by decide)]⟩ rQ_lots
  have hJ0 : J 74 0 = I 74 0 := by rw [← hJ, zup_same, upd_ne (by decide), va_up_row (by decide)]
  have h47 : J 74 47 = s := by rw [← hJ, zup_same, upd_at]
  have hNN : ∀ {K : zI}, rQ I K → K 78 (nI 2).toNatClampNeg = nI (bN S.2.1) := fun hK => by rw [nI_clamp (by omega)]; exact (rB_rQ hI.2.2.1 hK).2.1.2.2.1
  by_cases hN : 0 < bN S.2.1
  · have e : seaR S.2.1 q s S.2.2.1 m = (seaM S.2.1 q (s, S.2.2.1) m).2 := if_pos hN
    rw [e]
    have loop : ∀ k i (K : zI), i + k = m → rQ I K → K 74 0 = I 74 0 → K 74 47 = (seaM S.2.1 q (s, S.2.2.1) i).1 → rRow K 534 S.2.1 (seaM S.2.1 q (s, S.2.2.1) i).2 → zJ l Xi mX13_seasonBy d 0 0 19 [some (.ref 74), some (.int s), some (.int (nI m)), some (.int (nI q)), some (.int (nI i))] [] (K, g) (fun r' h' => r' = .inl none ∧ ∃ I', h' = (I', g) ∧ rQ I I' ∧ I' 74 0 = I 74 0 ∧ rRow I' 534 S.2.1 (seaM S.2.1 q (s, S.2.2.1) m).2) := by
      intro k
      induction k with
      | zero =>
        intro i K hi hK hK0 hK47 hKr
        obtain rfl : i = m := by omega
        refine zJ_iload dX13_seasonBy_19 rfl ?_
        refine zJ_iload_n dX13_seasonBy_21 rfl ?_
        refine zJ_icmp_ge 49 dX13_seasonBy_22 (by decide) (fun _ => ?_) (fun c22 => absurd (nI_le (by omega) (by omega)) c22)
        refine zJ_vret rfl dX13_seasonBy_49 ?_
        exact ⟨rfl, K, rfl, hK, hK0, hKr⟩
      | succ k ih =>
        intro i K hi hK hK0 hK47 hKr
        have hoi := sea_ok (q := q) (s := (s, S.2.2.1)) hb hok.1 hok.2.1 i
        refine zJ_iload dX13_seasonBy_19 rfl ?_
        refine zJ_iload_n dX13_seasonBy_21 rfl ?_
        refine zJ_icmp_ge 49 dX13_seasonBy_22 (by decide) (fun c22 => absurd c22 (nI_ge (by omega) (by omega))) (fun _ => ?_)
        refine zJ_aload_n dX13_seasonBy_25 rfl ?_
        refine zP_getr lf_X13_23 (zSt_ob hs 74 13 rfl) rfl (zSt_rf hs 74 12 78 rfl) dX13_seasonBy_26 ?_
        refine zJ_iconst (v := nI 2) dX13_seasonBy_29 rfl ?_
        refine zP_iald (zSt_ar hs 78 4 rfl) (by first | assumption | with_reducible exact vp_in_nI (by omega) (by omega) | (simp (disch := omega) only [nI_add, pk_mul, pk_sub, pk_div, pk_rem, nI_clamp]; with_reducible exact vp_in_nI (by omega) (by omega))) dX13_seasonBy_30 ?_
        rw [hNN hK]
        refine zJ_if_le 49 dX13_seasonBy_31 (by decide) (fun c31 => absurd c31 (nI_nle hN (by omega))) (fun _ => ?_)
        refine zJ_aload_n dX13_seasonBy_34 rfl ?_
        refine zJ_aload_n dX13_seasonBy_35 rfl ?_
        refine zP_getr lf_X13_73 (zSt_ob hs 74 13 rfl) rfl (zSt_rf hs 74 31 534 rfl) dX13_seasonBy_36 ?_
        refine zJ_iload_n dX13_seasonBy_39 rfl ?_
        refine zP_ecallVv [_, _] _ lv_X13_453 (m_onceBy (d := d - 1) hl (by omega) hs hq (rB_rQ hI.2.2.1 hK) hok.1 hN hKr hoi hK47) (zSt_ob hs 74 13 rfl) rfl (by omega) (Nat.le_of_ble_eq_true rfl) rfl dX13_seasonBy_40 (fun K2 h2 => ?_)
        refine zJ_iinc1 dX13_seasonBy_43 rfl (by decide) ?_
        refine zJ_goto 19 dX13_seasonBy_46 (by decide) ?_
        exact zJ_back (zle_r (zle_r (zle_r (zle_r (zle_r zle_0))))) rfl (ih (i + 1) K2 (by omega) (rQ_trans hK h2.1) (h2.2.1.trans hK0) h2.2.2.1 h2.2.2.2)
    refine zJ_aload_n dX13_seasonBy_0 rfl ?_
    refine zP_getr lf_X13_70 (zSt_ob hs 74 13 rfl) rfl (zSt_rf hs 74 30 533 rfl) dX13_seasonBy_1 ?_
    refine zJ_aload_n dX13_seasonBy_4 rfl ?_
    refine zP_getr lf_X13_73 (zSt_ob hs 74 13 rfl) rfl (zSt_rf hs 74 31 534 rfl) dX13_seasonBy_5 ?_
    refine zP_callSv [_, _] _ ls_X13_379 (k_copies (d := d - 1) hl (by omega) ha ha2 (by decide)) rfl (by omega) (Nat.le_of_ble_eq_true rfl) rfl dX13_seasonBy_8 ?_
    refine zJ_aload_n dX13_seasonBy_11 rfl ?_
    refine zJ_iload_n dX13_seasonBy_12 rfl ?_
    refine zP_puti lf_X13_446 (zSt_ob hs 74 13 rfl) rfl dX13_seasonBy_13 ?_
    refine zJ_iconst (v := nI 0) dX13_seasonBy_16 rfl ?_
    refine zJ_istore dX13_seasonBy_17 (Nat.le_of_ble_eq_true rfl) (by decide) ?_
    rw [hJ]
    exact zJ_back (zle_r (zle_r (zle_r (zle_r (zle_r zle_0))))) rfl (loop m 0 J (by omega) hJQ hJ0 h47 hRJ)
  · have e : seaR S.2.1 q s S.2.2.1 m = S.2.2.1 := if_neg hN
    rw [e]
    refine zJ_aload_n dX13_seasonBy_0 rfl ?_
    refine zP_getr lf_X13_70 (zSt_ob hs 74 13 rfl) rfl (zSt_rf hs 74 30 533 rfl) dX13_seasonBy_1 ?_
    refine zJ_aload_n dX13_seasonBy_4 rfl ?_
    refine zP_getr lf_X13_73 (zSt_ob hs 74 13 rfl) rfl (zSt_rf hs 74 31 534 rfl) dX13_seasonBy_5 ?_
    refine zP_callSv [_, _] _ ls_X13_379 (k_copies (d := d - 1) hl (by omega) ha ha2 (by decide)) rfl (by omega) (Nat.le_of_ble_eq_true rfl) rfl dX13_seasonBy_8 ?_
    refine zJ_aload_n dX13_seasonBy_11 rfl ?_
    refine zJ_iload_n dX13_seasonBy_12 rfl ?_
    refine zP_puti lf_X13_446 (zSt_ob hs 74 13 rfl) rfl dX13_seasonBy_13 ?_
    rw [hJ]
    refine zJ_iconst (v := nI 0) dX13_seasonBy_16 rfl ?_
    refine zJ_istore dX13_seasonBy_17 (Nat.le_of_ble_eq_true rfl) (by decide) ?_
    refine zJ_iload dX13_seasonBy_19 rfl ?_
    refine zJ_iload_n dX13_seasonBy_21 rfl ?_
    refine zJ_icmp_ge 49 dX13_seasonBy_22 (by decide) (fun c22 => ?_) (fun c22 => ?_)
    · skip
      refine zJ_vret rfl dX13_seasonBy_49 ?_
      exact ⟨rfl, J, rfl, hJQ, hJ0, hRJ⟩
    · skip
      refine zJ_aload_n dX13_seasonBy_25 rfl ?_
      refine zP_getr lf_X13_23 (zSt_ob hs 74 13 rfl) rfl (zSt_rf hs 74 12 78 rfl) dX13_seasonBy_26 ?_
      refine zJ_iconst (v := nI 2) dX13_seasonBy_29 rfl ?_
      refine zP_iald (zSt_ar hs 78 4 rfl) (by first | assumption | with_reducible exact vp_in_nI (by omega) (by omega) | (simp (disch := omega) only [nI_add, pk_mul, pk_sub, pk_div, pk_rem, nI_clamp]; with_reducible exact vp_in_nI (by omega) (by omega))) dX13_seasonBy_30 ?_
      rw [hNN hJQ]
      refine zJ_if_le 49 dX13_seasonBy_31 (by decide) (fun _ => ?_) (fun c31 => absurd (by rw [show bN S.2.1 = 0 by omega]; decide) c31)
      refine zJ_vret rfl dX13_seasonBy_49 ?_
      exact ⟨rfl, J, rfl, hJQ, hJ0, hRJ⟩
/-- without nets a season changes histories alone -/
def eqH (R R' : rwT) : Prop := ∀ k, ¬ (384 ≤ k ∧ k < 448) → R' k = R k
theorem sea_eqH {b : zWo} {q : Nat} {s : Int32} {R : rwT} (hN : ¬ 0 < bN b) : ∀ {m : Nat}, eqH R (seaM b q (s, R) m).2
  | 0 => fun _ _ => rfl
  | m + 1 => by
    have ih := sea_eqH (b := b) (q := q) (s := s) (R := R) hN (m := m)
    intro k hk
    have e : seaM b q (s, R) (m + 1) = oncM b q (seaM b q (s, R) m) := rfl
    rw [e]
    unfold oncM
    simp only [if_neg hN]
    split
    · unfold easM; rw [if_neg hk]; exact ih k hk
    · exact ih k hk
theorem eqH_usn {R R' : rwT} (h : eqH R R') {p : Nat} (hp : p < 64) : usn R' p = usn R p := cB_congr (fun n hn => by unfold tin; rw [h _ (by omega)])
theorem eqH_sea {b : zWo} {R R' : rwT} (hN : bN b = 0) (h : eqH R R') {k : Nat} : seaV b R' k = seaV b R k := by
  have e1 : sOver b R' = sOver b R := cntF_congr (fun p hp => by unfold ovQ ovN; rw [eqH_usn h hp])
  have e2 : sJoin b R' = sJoin b R := by unfold sJoin; rw [hN]; rfl
  have e3 : sUses R' = sUses R := sumF_congr (fun p hp => by rw [eqH_usn h hp])
  unfold seaV
  rw [e1, e2, e3, h 518 (by omega)]
theorem seaR_eq {b : zWo} {q m : Nat} {s : Int32} {R : rwT} {k : Nat} : seaV b (seaM b q (s, R) m).2 k = seaV b (seaR b q s R m) k := by
  unfold seaR
  by_cases hN : 0 < bN b
  · rw [if_pos hN]
  · rw [if_neg hN]; exact eqH_sea (by omega) (sea_eqH hN)
theorem qSea_ok {m q : Nat} (h1 : 1 ≤ m) (h2 : m ≤ 40) (h3 : q ≤ 16) : qSea (nI m) (nI q) = true := by
  unfold qSea nRange
  rw [Bool.and_eq_true]
  exact ⟨in_ok h1 h2 (by omega), in_ok (by omega) h3 (by omega)⟩
theorem m_season (hl : l.stackTraces = false) (hd : 12 ≤ d) (hs : zSt g) {S : sT} (hI : rI I S) (hok : okS S) {s : Int32} {m q k : Nat} (hm1 : 1 ≤ m) (hm : m ≤ 40) (hq : q ≤ 16) (hk : k ≤ 3) : zEi l Xi mX13_season d [.ref 74, .int s, .int (nI m), .int (nI q), .int (nI k)] I g (fun v J => v = seaV S.2.1 (seaM S.2.1 q (s, S.2.2.1) m).2 k ∧ J 74 0 = nI 0 ∧ rQ I J) := by
  refine zC_of hl rfl rfl rfl (Nat.le_of_ble_eq_true rfl) (zav_r (zSt_ob hs 74 13 rfl).1 (zav_i (zav_i (zav_i (zav_i zav_0))))) ?_
  have hI0 := rI_rQ hI (rQ_thr (x := nI 0))
  have hB0 := hI0.2.2.1
  have hR0 := hI0.2.2.2.1
  have hb := hB0.1
  have hN6 := hb.2.2.2.2.1
  have hC8 := hb.2.1
  have hR8 := hb.2.2.2.1
  have ha := zSt_ar hs 533 519 rfl
  rw [seaR_eq]
  have ha2 := zSt_ar hs 534 519 rfl
  have hokQ := seaR_ok (q := q) (m := m) (s := s) hb hok.1 hok.2.1
  refine zJ_aload_n dX13_season_0 rfl ?_
  refine zJ_iconst (v := nI 0) dX13_season_1 rfl ?_
  refine zP_puti lf_X13_107 (zSt_ob hs 74 13 rfl) rfl dX13_season_2 ?_
  refine zJ_aload_n dX13_season_5 rfl ?_
  refine zJ_iload_n dX13_season_6 rfl ?_
  refine zJ_iload_n dX13_season_7 rfl ?_
  refine zP_callSi [_, _] _ ls_X13_456 (m_isSeason (d := d - 1) hl (by omega)) rfl (by omega) (Nat.le_of_ble_eq_true rfl) rfl dX13_season_8 ?_
  rw [qSea_ok hm1 hm hq]
  refine zJ_if_eq 24 dX13_season_11 (by decide) (fun c11 => absurd c11 (by decide)) (fun _ => ?_)
  refine zJ_iload dX13_season_14 rfl ?_
  refine zJ_iconst (v := nI 0) dX13_season_16 rfl ?_
  refine zJ_iconst (v := nI 3) dX13_season_17 rfl ?_
  refine zP_callSi [_, _, _] _ ls_X13_141 (k_in (d := d - 1) hl (by omega)) rfl (by omega) (Nat.le_of_ble_eq_true rfl) rfl dX13_season_18 ?_
  rw [show decide (¬ (nI k) < (nI 0) ∧ (nI k) ≤ (nI 3)) = true from in_ok (by omega) (by omega) (by omega)]
  refine zJ_if_ne 28 dX13_season_21 (by decide) (fun _ => ?_) (fun c21 => absurd c21 (by decide))
  refine zJ_iconst (v := nI 0) dX13_season_28 rfl ?_
  refine zJ_iconst (v := nI 1) dX13_season_29 rfl ?_
  refine zJ_iconst (v := nI 1) dX13_season_30 rfl ?_
  refine zP_callVi [_, _, _] _ lv_X13_186 (m_badF (d := d - 1) hl (by omega) hs thr_at) (zSt_ob hs 74 13 rfl) rfl (by omega) (Nat.le_of_ble_eq_true rfl) rfl dX13_season_31 ?_
  refine zJ_if_eq 39 dX13_season_34 (by decide) (fun _ => ?_) (fun c34 => absurd rfl c34)
  refine zJ_aload_n dX13_season_39 rfl ?_
  refine zJ_iload_n dX13_season_40 rfl ?_
  refine zJ_iload_n dX13_season_41 rfl ?_
  refine zJ_iload_n dX13_season_42 rfl ?_
  refine zP_ecallVv [_, _, _] _ lv_X13_459 (m_seasonBy (d := d - 1) hl (by omega) hs hI0 hok hm hq) (zSt_ob hs 74 13 rfl) rfl (by omega) (Nat.le_of_ble_eq_true rfl) rfl dX13_season_43 (fun J h => ?_)
  obtain ⟨h1, h2, h3⟩ := h
  obtain ⟨Q, hQ⟩ : ∃ Q, seaR S.2.1 q s S.2.2.1 m = Q := ⟨_, rfl⟩
  rw [hQ] at h3 hokQ ⊢
  have hJ0 : J 74 0 = nI 0 := h2.trans thr_at
  have hJQ : rQ I J := rQ_trans rQ_thr h1
  have hBJ := rB_rQ hI.2.2.1 hJQ
  have hkk : k = 0 ∨ k = 1 ∨ k = 2 ∨ k = 3 := by omega
  rcases hkk with rfl | rfl | rfl | rfl
  · skip
    refine zJ_iload dX13_season_46 rfl ?_
    refine zJ_if_ne 62 dX13_season_48 (by decide) (fun c48 => absurd rfl c48) (fun _ => ?_)
    refine zJ_aload_n dX13_season_51 rfl ?_
    refine zJ_aload_n dX13_season_52 rfl ?_
    refine zP_getr lf_X13_73 (zSt_ob hs 74 13 rfl) rfl (zSt_rf hs 74 31 534 rfl) dX13_season_53 ?_
    refine zP_callVi [_] _ lv_X13_387 (m_overs (d := d - 1) hl (by omega) hs hBJ ha2 h3 hokQ) (zSt_ob hs 74 13 rfl) rfl (by omega) (Nat.le_of_ble_eq_true rfl) rfl dX13_season_56 ?_
    refine zJ_goto 104 dX13_season_59 (by decide) ?_
    refine zJ_iret rfl dX13_season_104 ?_
    exact ⟨_, J, rfl, rfl, rfl, hJ0, hJQ⟩
  · skip
    refine zJ_iload dX13_season_46 rfl ?_
    refine zJ_if_ne 62 dX13_season_48 (by decide) (fun _ => ?_) (fun c48 => absurd c48 (by decide))
    refine zJ_iload dX13_season_62 rfl ?_
    refine zJ_iconst (v := nI 1) dX13_season_64 rfl ?_
    refine zJ_icmp_ne 79 dX13_season_65 (by decide) (fun c65 => absurd rfl c65) (fun _ => ?_)
    refine zJ_aload_n dX13_season_68 rfl ?_
    refine zJ_aload_n dX13_season_69 rfl ?_
    refine zP_getr lf_X13_73 (zSt_ob hs 74 13 rfl) rfl (zSt_rf hs 74 31 534 rfl) dX13_season_70 ?_
    refine zP_callVi [_] _ lv_X13_383 (m_joinedOnes (d := d - 1) hl (by omega) hs hBJ ha2 h3) (zSt_ob hs 74 13 rfl) rfl (by omega) (Nat.le_of_ble_eq_true rfl) rfl dX13_season_73 ?_
    refine zJ_goto 104 dX13_season_76 (by decide) ?_
    refine zJ_iret rfl dX13_season_104 ?_
    exact ⟨_, J, rfl, rfl, rfl, hJ0, hJQ⟩
  · skip
    refine zJ_iload dX13_season_46 rfl ?_
    refine zJ_if_ne 62 dX13_season_48 (by decide) (fun _ => ?_) (fun c48 => absurd c48 (by decide))
    refine zJ_iload dX13_season_62 rfl ?_
    refine zJ_iconst (v := nI 1) dX13_season_64 rfl ?_
    refine zJ_icmp_ne 79 dX13_season_65 (by decide) (fun _ => ?_) (fun c65 => absurd c65 (by decide))
    refine zJ_iload dX13_season_79 rfl ?_
    refine zJ_iconst (v := nI 2) dX13_season_81 rfl ?_
    refine zJ_icmp_ne 96 dX13_season_82 (by decide) (fun c82 => absurd rfl c82) (fun _ => ?_)
    refine zJ_aload_n dX13_season_85 rfl ?_
    refine zP_getr lf_X13_73 (zSt_ob hs 74 13 rfl) rfl (zSt_rf hs 74 31 534 rfl) dX13_season_86 ?_
    refine zJ_sipush (v := nI 518) dX13_season_89 rfl ?_
    refine zP_iald (zSt_ar hs 534 519 rfl) (by first | assumption | with_reducible exact vp_in_nI (by omega) (by omega) | (simp (disch := omega) only [nI_add, pk_mul, pk_sub, pk_div, pk_rem, nI_clamp]; with_reducible exact vp_in_nI (by omega) (by omega))) dX13_season_92 ?_
    refine zJ_goto 104 dX13_season_93 (by decide) ?_
    refine zJ_iret rfl dX13_season_104 ?_
    exact ⟨_, J, rfl, rfl, by rw [nI_clamp (by omega)]; exact h3.2.2, hJ0, hJQ⟩
  · skip
    refine zJ_iload dX13_season_46 rfl ?_
    refine zJ_if_ne 62 dX13_season_48 (by decide) (fun _ => ?_) (fun c48 => absurd c48 (by decide))
    refine zJ_iload dX13_season_62 rfl ?_
    refine zJ_iconst (v := nI 1) dX13_season_64 rfl ?_
    refine zJ_icmp_ne 79 dX13_season_65 (by decide) (fun _ => ?_) (fun c65 => absurd c65 (by decide))
    refine zJ_iload dX13_season_79 rfl ?_
    refine zJ_iconst (v := nI 2) dX13_season_81 rfl ?_
    refine zJ_icmp_ne 96 dX13_season_82 (by decide) (fun _ => ?_) (fun c82 => absurd c82 (by decide))
    refine zJ_aload_n dX13_season_96 rfl ?_
    refine zJ_aload_n dX13_season_97 rfl ?_
    refine zP_getr lf_X13_73 (zSt_ob hs 74 13 rfl) rfl (zSt_rf hs 74 31 534 rfl) dX13_season_98 ?_
    refine zP_callVi [_] _ lv_X13_403 (m_placesOfAll (d := d - 1) hl (by omega) hs hBJ ha2 h3 hokQ) (zSt_ob hs 74 13 rfl) rfl (by omega) (Nat.le_of_ble_eq_true rfl) rfl dX13_season_101 ?_
    refine zJ_iret rfl dX13_season_104 ?_
    exact ⟨_, J, rfl, rfl, rfl, hJ0, hJQ⟩
theorem spn_nn {b : zWo} {R : rwT} {s : Int32} {m q n : Nat} : ∀ {i : Nat}, ∃ k, k ≤ 64 ∧ (spnL b R s m q n i).1 = nI k
  | 0 => ⟨64, Nat.le_refl _, rfl⟩
  | i + 1 => by
    obtain ⟨k, hk, e⟩ := spn_nn (b := b) (R := R) (s := s) (m := m) (q := q) (n := n) (i := i)
    have e2 : (spnL b R s m q n (i + 1)).1 = if sOver b (seaM b q (s + nI i, R) m).2 < (spnL b R s m q n i).1 then sOver b (seaM b q (s + nI i, R) m).2 else (spnL b R s m q n i).1 := rfl
    rw [e2]
    split
    · exact ⟨_, cB_le, cntF_nI⟩
    · exact ⟨k, hk, e⟩
noncomputable def spnF (b : zWo) (R : rwT) (s : Int32) (m q n i : Nat) : Int32 := if i = 0 then -1 else (spnL b R s m q n i).1
set_option maxHeartbeats 1000000 in
theorem m_span (hl : l.stackTraces = false) (hd : 12 ≤ d) (hs : zSt g) {S : sT} (hI : rI I S) (hok : okS S) {s : Int32} {c m q k n : Nat} (hc1 : 1 ≤ c) (hc : c ≤ 5) (hm1 : 1 ≤ m) (hm : m ≤ 40) (hq : q ≤ 16) (hk : k ≤ 2) (hn : n < bN S.2.1) : zEi l Xi mX13_span d [.ref 74, .int s, .int (nI c), .int (nI m), .int (nI q), .int (nI k), .int (nI n)] I g (fun v J => v = spnV S.2.1 S.2.2.1 s c m q n k ∧ J 74 0 = nI 0 ∧ rQ I J) := by
  refine zC_of hl rfl rfl rfl (Nat.le_of_ble_eq_true rfl) (zav_r (zSt_ob hs 74 13 rfl).1 (zav_i (zav_i (zav_i (zav_i (zav_i (zav_i zav_0))))))) ?_
  have hI0 := rI_rQ hI (rQ_thr (x := nI 0))
  have hB0 := hI0.2.2.1
  have hR0 := hI0.2.2.2.1
  have hb := hB0.1
  have hN6 := hb.2.2.2.2.1
  have hC8 := hb.2.1
  have hR8 := hb.2.2.2.1
  have ha := zSt_ar hs 533 519 rfl
  have ha2 := zSt_ar hs 534 519 rfl
  have hN0 : 0 < bN S.2.1 := by omega
  have loop : ∀ j i (J : zI), i + j = c → rQ I J → J 74 0 = nI 0 → zJ l Xi mX13_span d 0 0 84 [some (.ref 74), some (.int s), some (.int (nI c)), some (.int (nI m)), some (.int (nI q)), some (.int (nI k)), some (.int (nI n)), some (.int (spnF S.2.1 S.2.2.1 s m q n i)), some (.int (spnL S.2.1 S.2.2.1 s m q n i).2.1), some (.int (spnL S.2.1 S.2.2.1 s m q n i).2.2), some (.int (nI i)), none] [] (J, g) (fun r' h' => ∃ x I', r' = .inl (some (.int x)) ∧ h' = (I', g) ∧ x = spnV S.2.1 S.2.2.1 s c m q n k ∧ I' 74 0 = nI 0 ∧ rQ I I') := by
    intro j
    induction j with
    | zero =>
      intro i J hi hJQ hJ0
      obtain rfl : i = c := by omega
      have hF : spnF S.2.1 S.2.2.1 s m q n i = (spnL S.2.1 S.2.2.1 s m q n i).1 := if_neg (by omega)
      have hkk : k = 0 ∨ k = 1 ∨ k = 2 := by omega
      rw [hF]
      rcases hkk with rfl | rfl | rfl
      · skip
        refine zJ_iload dX13_span_84 rfl ?_
        refine zJ_iload_n dX13_span_86 rfl ?_
        refine zJ_icmp_ge 169 dX13_span_87 (by decide) (fun _ => ?_) (fun c87 => absurd (nI_le (by omega) (by omega)) c87)
        refine zJ_iload dX13_span_169 rfl ?_
        refine zJ_if_ne 179 dX13_span_171 (by decide) (fun c171 => absurd rfl c171) (fun _ => ?_)
        refine zJ_iload dX13_span_174 rfl ?_
        refine zJ_goto 192 dX13_span_176 (by decide) ?_
        refine zJ_iret rfl dX13_span_192 ?_
        exact ⟨_, J, rfl, rfl, rfl, hJ0, hJQ⟩
      · skip
        refine zJ_iload dX13_span_84 rfl ?_
        refine zJ_iload_n dX13_span_86 rfl ?_
        refine zJ_icmp_ge 169 dX13_span_87 (by decide) (fun _ => ?_) (fun c87 => absurd (nI_le (by omega) (by omega)) c87)
        refine zJ_iload dX13_span_169 rfl ?_
        refine zJ_if_ne 179 dX13_span_171 (by decide) (fun _ => ?_) (fun c171 => absurd c171 (by decide))
        refine zJ_iload dX13_span_179 rfl ?_
        refine zJ_iconst (v := nI 1) dX13_span_181 rfl ?_
        refine zJ_icmp_ne 190 dX13_span_182 (by decide) (fun c182 => absurd rfl c182) (fun _ => ?_)
        refine zJ_iload dX13_span_185 rfl ?_
        refine zJ_goto 192 dX13_span_187 (by decide) ?_
        refine zJ_iret rfl dX13_span_192 ?_
        exact ⟨_, J, rfl, rfl, rfl, hJ0, hJQ⟩
      · skip
        refine zJ_iload dX13_span_84 rfl ?_
        refine zJ_iload_n dX13_span_86 rfl ?_
        refine zJ_icmp_ge 169 dX13_span_87 (by decide) (fun _ => ?_) (fun c87 => absurd (nI_le (by omega) (by omega)) c87)
        refine zJ_iload dX13_span_169 rfl ?_
        refine zJ_if_ne 179 dX13_span_171 (by decide) (fun _ => ?_) (fun c171 => absurd c171 (by decide))
        refine zJ_iload dX13_span_179 rfl ?_
        refine zJ_iconst (v := nI 1) dX13_span_181 rfl ?_
        refine zJ_icmp_ne 190 dX13_span_182 (by decide) (fun _ => ?_) (fun c182 => absurd c182 (by decide))
        refine zJ_iload dX13_span_190 rfl ?_
        refine zJ_iret rfl dX13_span_192 ?_
        exact ⟨_, J, rfl, rfl, rfl, hJ0, hJQ⟩
    | succ j ih =>
      intro i J hi hJQ hJ0
      have hIJ := rI_rQ hI hJQ
      obtain ⟨Q, hQ⟩ : ∃ Q, (seaM S.2.1 q (s + nI i, S.2.2.1) m).2 = Q := ⟨_, rfl⟩
      have hQ2 : seaR S.2.1 q (s + nI i) S.2.2.1 m = Q := (if_pos hN0).trans hQ
      have hokQ : okR S.2.1 Q := by rw [← hQ2]; exact seaR_ok hb hok.1 hok.2.1
      obtain ⟨t, ht⟩ : ∃ t, spnL S.2.1 S.2.2.1 s m q n i = t := ⟨_, rfl⟩
      have hst : spnL S.2.1 S.2.2.1 s m q n (i + 1) = (if sOver S.2.1 Q < t.1 then sOver S.2.1 Q else t.1, if t.2.1 < sOver S.2.1 Q then sOver S.2.1 Q else t.2.1, t.2.2 + if jnd Q (bpc S.2.1) (bpn S.2.1) n then 1 else 0) := by rw [← hQ, ← ht]; rfl
      have hF1 : spnF S.2.1 S.2.2.1 s m q n (i + 1) = if sOver S.2.1 Q < t.1 then sOver S.2.1 Q else t.1 := by unfold spnF; rw [if_neg (by omega), hst]
      obtain ⟨k0, hk0, hsn⟩ := spn_nn (b := S.2.1) (R := S.2.2.1) (s := s) (m := m) (q := q) (n := n) (i := i)
      rw [ht] at hsn
      have hov : ∃ w, w ≤ 64 ∧ sOver S.2.1 Q = nI w := ⟨_, cB_le, cntF_nI⟩
      obtain ⟨w, hw, hov⟩ := hov
      have hmor : morI t.2.1 (sOver S.2.1 Q) = if t.2.1 < sOver S.2.1 Q then sOver S.2.1 Q else t.2.1 := by
        unfold morI
        by_cases z : t.2.1 < sOver S.2.1 Q
        · rw [if_pos z, if_pos (Int32.le_of_lt z)]
        · rw [if_neg z]
          split
          · next h => exact Int32.le_antisymm (Int32.not_lt.mp z) h
          · rfl
      have IH := fun K h1 h2 => ih (i + 1) K (by omega) h1 h2
      rw [hst, hF1] at IH
      rw [ht]
      by_cases hi0 : i = 0
      · have hF : spnF S.2.1 S.2.2.1 s m q n i = -1 := if_pos hi0
        have ht1 : t.1 = nI 64 := by rw [← ht, hi0]; rfl
        have hl1 : (if sOver S.2.1 Q < t.1 then sOver S.2.1 Q else t.1) = sOver S.2.1 Q := by
          split
          · rfl
          · next h => rw [ht1, hov] at h ⊢; rw [show w = 64 from Nat.le_antisymm hw (Nat.le_of_not_lt (fun z => h (nI_lt z (by omega))))]
        rw [hF]
        refine zJ_iload dX13_span_84 rfl ?_
        refine zJ_iload_n dX13_span_86 rfl ?_
        refine zJ_icmp_ge 169 dX13_span_87 (by decide) (fun c87 => absurd c87 (nI_ge (by omega) (by omega))) (fun _ => ?_)
        refine zJ_aload_n dX13_span_90 rfl ?_
        refine zJ_iload_n dX13_span_91 rfl ?_
        refine zJ_iload dX13_span_92 rfl ?_
        refine zJ_iadd dX13_span_94 ?_
        refine zJ_iload_n dX13_span_95 rfl ?_
        refine zJ_iload dX13_span_96 rfl ?_
        refine zP_ecallVv [_, _, _] _ lv_X13_459 (m_seasonBy (d := d - 1) hl (by omega) hs hIJ hok hm hq) (zSt_ob hs 74 13 rfl) rfl (by omega) (Nat.le_of_ble_eq_true rfl) rfl dX13_span_98 (fun K h => ?_)
        rw [hQ2] at h
        have hBK := rB_rQ hI.2.2.1 (rQ_trans hJQ h.1)
        refine zJ_aload_n dX13_span_101 rfl ?_
        refine zJ_aload_n dX13_span_102 rfl ?_
        refine zP_getr lf_X13_73 (zSt_ob hs 74 13 rfl) rfl (zSt_rf hs 74 31 534 rfl) dX13_span_103 ?_
        refine zP_callVi [_] _ lv_X13_387 (m_overs (d := d - 1) hl (by omega) hs hBK ha2 h.2.2 hokQ) (zSt_ob hs 74 13 rfl) rfl (by omega) (Nat.le_of_ble_eq_true rfl) rfl dX13_span_106 ?_
        refine zJ_istore dX13_span_109 (Nat.le_of_ble_eq_true rfl) (by decide) ?_
        refine zJ_iload dX13_span_111 rfl ?_
        refine zJ_iconst (v := -1) dX13_span_113 rfl ?_
        refine zJ_icmp_ne 122 dX13_span_114 (by decide) (fun c114 => absurd rfl c114) (fun _ => ?_)
        refine zJ_iload dX13_span_117 rfl ?_
        refine zJ_goto 129 dX13_span_119 (by decide) ?_
        refine zJ_istore dX13_span_129 (Nat.le_of_ble_eq_true rfl) (by decide) ?_
        refine zJ_iload dX13_span_131 rfl ?_
        refine zJ_iload dX13_span_133 rfl ?_
        refine zP_callSi [_, _] _ ls_X13_262 (k_more (d := d - 1) hl (by omega)) rfl (by omega) (Nat.le_of_ble_eq_true rfl) rfl dX13_span_135 ?_
        rw [hmor]
        refine zJ_istore dX13_span_138 (Nat.le_of_ble_eq_true rfl) (by decide) ?_
        refine zJ_iload dX13_span_140 rfl ?_
        refine zJ_aload_n dX13_span_142 rfl ?_
        refine zJ_aload_n dX13_span_143 rfl ?_
        refine zP_getr lf_X13_73 (zSt_ob hs 74 13 rfl) rfl (zSt_rf hs 74 31 534 rfl) dX13_span_144 ?_
        refine zJ_iload dX13_span_147 rfl ?_
        refine zP_callVi [_, _] _ lv_X13_312 (m_isJoined (d := d - 1) hl (by omega) hs hBK ha2 h.2.2 hn) (zSt_ob hs 74 13 rfl) rfl (by omega) (Nat.le_of_ble_eq_true rfl) rfl dX13_span_149 ?_
        refine zJ_if_eq 159 dX13_span_152 (by decide) (fun c152 => ?_) (fun c152 => ?_)
        · replace c152 := zb0.mp c152
          refine zJ_iconst (v := nI 0) dX13_span_159 rfl ?_
          refine zJ_iadd dX13_span_160 ?_
          refine zJ_istore dX13_span_161 (Nat.le_of_ble_eq_true rfl) (by decide) ?_
          refine zJ_iinc1 dX13_span_163 rfl (by decide) ?_
          refine zJ_goto 84 dX13_span_166 (by decide) ?_
          have h9 := IH K (rQ_trans hJQ h.1) (h.2.1.trans hJ0)
          rw [hl1, c152] at h9
          exact zJ_back (zle_r (zle_r (zle_r (zle_r (zle_r (zle_r (zle_r (zle_r (zle_r (zle_r (zle_r (zle_n zle_0)))))))))))) rfl h9
        · replace c152 := zb1.mp c152
          refine zJ_iconst (v := nI 1) dX13_span_155 rfl ?_
          refine zJ_goto 160 dX13_span_156 (by decide) ?_
          refine zJ_iadd dX13_span_160 ?_
          refine zJ_istore dX13_span_161 (Nat.le_of_ble_eq_true rfl) (by decide) ?_
          refine zJ_iinc1 dX13_span_163 rfl (by decide) ?_
          refine zJ_goto 84 dX13_span_166 (by decide) ?_
          have h9 := IH K (rQ_trans hJQ h.1) (h.2.1.trans hJ0)
          rw [hl1, c152] at h9
          exact zJ_back (zle_r (zle_r (zle_r (zle_r (zle_r (zle_r (zle_r (zle_r (zle_r (zle_r (zle_r (zle_n zle_0)))))))))))) rfl h9
      · have hF : spnF S.2.1 S.2.2.1 s m q n i = t.1 := (if_neg hi0).trans (by rw [ht])
        have hles : lesI t.1 (sOver S.2.1 Q) = if sOver S.2.1 Q < t.1 then sOver S.2.1 Q else t.1 := by
          unfold lesI
          by_cases z : t.1 < sOver S.2.1 Q
          · rw [if_pos z, if_neg (Int32.not_lt.mpr (Int32.le_of_lt z))]
          · rw [if_neg z]
            split
            · rfl
            · next h => exact Int32.le_antisymm (Int32.not_lt.mp z) (Int32.not_lt.mp h)
        rw [hF]
        refine zJ_iload dX13_span_84 rfl ?_
        refine zJ_iload_n dX13_span_86 rfl ?_
        refine zJ_icmp_ge 169 dX13_span_87 (by decide) (fun c87 => absurd c87 (nI_ge (by omega) (by omega))) (fun _ => ?_)
        refine zJ_aload_n dX13_span_90 rfl ?_
        refine zJ_iload_n dX13_span_91 rfl ?_
        refine zJ_iload dX13_span_92 rfl ?_
        refine zJ_iadd dX13_span_94 ?_
        refine zJ_iload_n dX13_span_95 rfl ?_
        refine zJ_iload dX13_span_96 rfl ?_
        refine zP_ecallVv [_, _, _] _ lv_X13_459 (m_seasonBy (d := d - 1) hl (by omega) hs hIJ hok hm hq) (zSt_ob hs 74 13 rfl) rfl (by omega) (Nat.le_of_ble_eq_true rfl) rfl dX13_span_98 (fun K h => ?_)
        rw [hQ2] at h
        have hBK := rB_rQ hI.2.2.1 (rQ_trans hJQ h.1)
        refine zJ_aload_n dX13_span_101 rfl ?_
        refine zJ_aload_n dX13_span_102 rfl ?_
        refine zP_getr lf_X13_73 (zSt_ob hs 74 13 rfl) rfl (zSt_rf hs 74 31 534 rfl) dX13_span_103 ?_
        refine zP_callVi [_] _ lv_X13_387 (m_overs (d := d - 1) hl (by omega) hs hBK ha2 h.2.2 hokQ) (zSt_ob hs 74 13 rfl) rfl (by omega) (Nat.le_of_ble_eq_true rfl) rfl dX13_span_106 ?_
        refine zJ_istore dX13_span_109 (Nat.le_of_ble_eq_true rfl) (by decide) ?_
        refine zJ_iload dX13_span_111 rfl ?_
        refine zJ_iconst (v := -1) dX13_span_113 rfl ?_
        refine zJ_icmp_ne 122 dX13_span_114 (by decide) (fun _ => ?_) (fun c114 => absurd c114 (by rw [hsn]; exact nI_ne1 (by omega)))
        refine zJ_iload dX13_span_122 rfl ?_
        refine zJ_iload dX13_span_124 rfl ?_
        refine zP_callSi [_, _] _ ls_X13_259 (k_less (d := d - 1) hl (by omega)) rfl (by omega) (Nat.le_of_ble_eq_true rfl) rfl dX13_span_126 ?_
        rw [hles]
        refine zJ_istore dX13_span_129 (Nat.le_of_ble_eq_true rfl) (by decide) ?_
        refine zJ_iload dX13_span_131 rfl ?_
        refine zJ_iload dX13_span_133 rfl ?_
        refine zP_callSi [_, _] _ ls_X13_262 (k_more (d := d - 1) hl (by omega)) rfl (by omega) (Nat.le_of_ble_eq_true rfl) rfl dX13_span_135 ?_
        rw [hmor]
        refine zJ_istore dX13_span_138 (Nat.le_of_ble_eq_true rfl) (by decide) ?_
        refine zJ_iload dX13_span_140 rfl ?_
        refine zJ_aload_n dX13_span_142 rfl ?_
        refine zJ_aload_n dX13_span_143 rfl ?_
        refine zP_getr lf_X13_73 (zSt_ob hs 74 13 rfl) rfl (zSt_rf hs 74 31 534 rfl) dX13_span_144 ?_
        refine zJ_iload dX13_span_147 rfl ?_
        refine zP_callVi [_, _] _ lv_X13_312 (m_isJoined (d := d - 1) hl (by omega) hs hBK ha2 h.2.2 hn) (zSt_ob hs 74 13 rfl) rfl (by omega) (Nat.le_of_ble_eq_true rfl) rfl dX13_span_149 ?_
        refine zJ_if_eq 159 dX13_span_152 (by decide) (fun c152 => ?_) (fun c152 => ?_)
        · replace c152 := zb0.mp c152
          refine zJ_iconst (v := nI 0) dX13_span_159 rfl ?_
          refine zJ_iadd dX13_span_160 ?_
          refine zJ_istore dX13_span_161 (Nat.le_of_ble_eq_true rfl) (by decide) ?_
          refine zJ_iinc1 dX13_span_163 rfl (by decide) ?_
          refine zJ_goto 84 dX13_span_166 (by decide) ?_
          have h9 := IH K (rQ_trans hJQ h.1) (h.2.1.trans hJ0)
          rw [c152] at h9
          exact zJ_back (zle_r (zle_r (zle_r (zle_r (zle_r (zle_r (zle_r (zle_r (zle_r (zle_r (zle_r (zle_n zle_0)))))))))))) rfl h9
        · replace c152 := zb1.mp c152
          refine zJ_iconst (v := nI 1) dX13_span_155 rfl ?_
          refine zJ_goto 160 dX13_span_156 (by decide) ?_
          refine zJ_iadd dX13_span_160 ?_
          refine zJ_istore dX13_span_161 (Nat.le_of_ble_eq_true rfl) (by decide) ?_
          refine zJ_iinc1 dX13_span_163 rfl (by decide) ?_
          refine zJ_goto 84 dX13_span_166 (by decide) ?_
          have h9 := IH K (rQ_trans hJQ h.1) (h.2.1.trans hJ0)
          rw [c152] at h9
          exact zJ_back (zle_r (zle_r (zle_r (zle_r (zle_r (zle_r (zle_r (zle_r (zle_r (zle_r (zle_r (zle_n zle_0)))))))))))) rfl h9
  refine zJ_aload_n dX13_span_0 rfl ?_
  refine zJ_iconst (v := nI 0) dX13_span_1 rfl ?_
  refine zP_puti lf_X13_107 (zSt_ob hs 74 13 rfl) rfl dX13_span_2 ?_
  refine zJ_aload_n dX13_span_5 rfl ?_
  refine zJ_aload_n dX13_span_6 rfl ?_
  refine zJ_iload dX13_span_7 rfl ?_
  refine zP_callVi [_] _ lv_X13_412 (m_isNet (d := d - 1) hl (by omega) hs hB0) (zSt_ob hs 74 13 rfl) rfl (by omega) (Nat.le_of_ble_eq_true rfl) rfl dX13_span_9 ?_
  rw [qNet_ok hb hn]
  refine zJ_if_ne 19 dX13_span_12 (by decide) (fun _ => ?_) (fun c12 => absurd c12 (by decide))
  refine zJ_iconst (v := nI 0) dX13_span_19 rfl ?_
  refine zJ_iconst (v := nI 1) dX13_span_20 rfl ?_
  refine zJ_iconst (v := nI 0) dX13_span_21 rfl ?_
  refine zP_callVi [_, _, _] _ lv_X13_186 (m_badF (d := d - 1) hl (by omega) hs thr_at) (zSt_ob hs 74 13 rfl) rfl (by omega) (Nat.le_of_ble_eq_true rfl) rfl dX13_span_22 ?_
  refine zJ_if_ne 70 dX13_span_25 (by decide) (fun c25 => absurd rfl c25) (fun _ => ?_)
  refine zJ_aload_n dX13_span_28 rfl ?_
  refine zJ_iload_n dX13_span_29 rfl ?_
  refine zJ_iconst (v := nI 1) dX13_span_30 rfl ?_
  refine zJ_iconst (v := nI 5) dX13_span_31 rfl ?_
  refine zP_callSi [_, _, _] _ ls_X13_141 (k_in (d := d - 1) hl (by omega)) rfl (by omega) (Nat.le_of_ble_eq_true rfl) rfl dX13_span_32 ?_
  rw [show decide (¬ (nI c) < (nI 1) ∧ (nI c) ≤ (nI 5)) = true from in_ok (by omega) (by omega) (by omega)]
  refine zJ_if_eq 57 dX13_span_35 (by decide) (fun c35 => absurd c35 (by decide)) (fun _ => ?_)
  refine zJ_iload_n dX13_span_38 rfl ?_
  refine zJ_iload dX13_span_39 rfl ?_
  refine zP_callSi [_, _] _ ls_X13_456 (m_isSeason (d := d - 1) hl (by omega)) rfl (by omega) (Nat.le_of_ble_eq_true rfl) rfl dX13_span_41 ?_
  rw [qSea_ok hm1 hm hq]
  refine zJ_if_eq 57 dX13_span_44 (by decide) (fun c44 => absurd c44 (by decide)) (fun _ => ?_)
  refine zJ_iload dX13_span_47 rfl ?_
  refine zJ_iconst (v := nI 0) dX13_span_49 rfl ?_
  refine zJ_iconst (v := nI 2) dX13_span_50 rfl ?_
  refine zP_callSi [_, _, _] _ ls_X13_141 (k_in (d := d - 1) hl (by omega)) rfl (by omega) (Nat.le_of_ble_eq_true rfl) rfl dX13_span_51 ?_
  rw [show decide (¬ (nI k) < (nI 0) ∧ (nI k) ≤ (nI 2)) = true from in_ok (by omega) (by omega) (by omega)]
  refine zJ_if_ne 61 dX13_span_54 (by decide) (fun _ => ?_) (fun c54 => absurd c54 (by decide))
  refine zJ_iconst (v := nI 0) dX13_span_61 rfl ?_
  refine zJ_iconst (v := nI 2) dX13_span_62 rfl ?_
  refine zJ_iconst (v := nI 1) dX13_span_63 rfl ?_
  refine zP_callVi [_, _, _] _ lv_X13_186 (m_badF (d := d - 1) hl (by omega) hs thr_at) (zSt_ob hs 74 13 rfl) rfl (by omega) (Nat.le_of_ble_eq_true rfl) rfl dX13_span_64 ?_
  refine zJ_if_eq 72 dX13_span_67 (by decide) (fun _ => ?_) (fun c67 => absurd rfl c67)
  refine zJ_iconst (v := -1) dX13_span_72 rfl ?_
  refine zJ_istore dX13_span_73 (Nat.le_of_ble_eq_true rfl) (by decide) ?_
  refine zJ_iconst (v := nI 0) dX13_span_75 rfl ?_
  refine zJ_istore dX13_span_76 (Nat.le_of_ble_eq_true rfl) (by decide) ?_
  refine zJ_iconst (v := nI 0) dX13_span_78 rfl ?_
  refine zJ_istore dX13_span_79 (Nat.le_of_ble_eq_true rfl) (by decide) ?_
  refine zJ_iconst (v := nI 0) dX13_span_81 rfl ?_
  refine zJ_istore dX13_span_82 (Nat.le_of_ble_eq_true rfl) (by decide) ?_
  exact zJ_back (zle_r (zle_r (zle_r (zle_r (zle_r (zle_r (zle_r (zle_i rfl (zle_i rfl (zle_i rfl (zle_r (zle_n zle_0)))))))))))) rfl (loop c 0 _ (by omega) rQ_thr thr_at)
end ZRefAB
