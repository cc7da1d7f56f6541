/-! ===== the reference: crowd, tight, fits ===== -/
section ZRefZ
variable {l : Launch} {Xi : zXi} {d : Nat} {I : zI} {g : zG}
theorem m_asTold (hl : l.stackTraces = false) (hd : 1 ≤ d) {p : Nat} (hp : p < 64) : zD l Xi mX13_asTold d [.int (nI p)] I g (some (.int (nI (nmP p)))) I := by
  refine zC_of hl rfl rfl rfl (Nat.le_of_ble_eq_true rfl) (zav_i zav_0) ?_
  refine zJ_iload_n dX13_asTold_0 rfl ?_
  refine zJ_iconst (v := -1) dX13_asTold_1 rfl ?_
  refine zJ_icmp_ne 9 dX13_asTold_2 (by decide) (fun _ => ?_) (fun c2 => absurd c2 (nI_ne1 (by omega)))
  refine zJ_bipush (v := nI 10) dX13_asTold_9 rfl ?_
  refine zJ_iload_n dX13_asTold_11 rfl ?_
  refine zJ_bipush (v := nI 8) dX13_asTold_12 rfl ?_
  refine zJ_idiv dX13_asTold_14 (by decide) ?_
  rw [pk_div (by omega) (by omega) (by omega)]
  refine zJ_imul dX13_asTold_15 ?_
  rw [pk_mul]
  refine zJ_iload_n dX13_asTold_16 rfl ?_
  refine zJ_bipush (v := nI 8) dX13_asTold_17 rfl ?_
  refine zJ_irem dX13_asTold_19 (by decide) ?_
  rw [pk_rem (by omega) (by omega) (by omega)]
  refine zJ_iadd dX13_asTold_20 ?_
  rw [nI_add]
  refine zJ_iret rfl dX13_asTold_21 ?_
  exact ⟨rfl, rfl⟩
theorem m_asTold0 (hl : l.stackTraces = false) (hd : 1 ≤ d) : zD l Xi mX13_asTold d [.int (-1)] I g (some (.int (-1))) I := by
  refine zC_of hl rfl rfl rfl (Nat.le_of_ble_eq_true rfl) (zav_i zav_0) ?_
  refine zJ_iload_n dX13_asTold_0 rfl ?_
  refine zJ_iconst (v := -1) dX13_asTold_1 rfl ?_
  refine zJ_icmp_ne 9 dX13_asTold_2 (by decide) (fun c2 => absurd rfl c2) (fun _ => ?_)
  refine zJ_iconst (v := -1) dX13_asTold_5 rfl ?_
  refine zJ_goto 21 dX13_asTold_6 (by decide) ?_
  refine zJ_iret rfl dX13_asTold_21 ?_
  exact ⟨rfl, rfl⟩
theorem crw_st {R : rwT} {p : Nat} (h : usn R (crwN R (p - 1)) < usn R p) : crwN R p = p := by
  cases p with
  | zero => rfl
  | succ q => have h' : usn R (crwN R q) < usn R (q + 1) := h; simp only [crwN]; rw [if_pos h']
theorem crw_no {R : rwT} {p : Nat} (h : ¬ usn R (crwN R (p - 1)) < usn R p) : crwN R p = crwN R (p - 1) := by
  cases p with
  | zero => rfl
  | succ q => have h' : ¬ usn R (crwN R q) < usn R (q + 1) := h; simp only [crwN]; rw [if_neg h']; rfl
theorem m_crowd (hl : l.stackTraces = false) (hd : 12 ≤ d) (hs : zSt g) {S : sT} (hI : rI I S) (hok : okS S) {k : Nat} (hk : k ≤ 1) : zEi l Xi mX13_crowd d [.ref 74, .int (nI k)] I g (fun v J => v = crwV S.2.2.1 k ∧ J 74 0 = nI 0 ∧ rQ I J) := by
  refine zC_of hl rfl rfl rfl (Nat.le_of_ble_eq_true rfl) (zav_r (zSt_ob hs 74 13 rfl).1 (zav_i zav_0)) ?_
  have hI0 := rI_rQ hI (rQ_thr (x := nI 0))
  have hB0 := hI0.2.2.1
  have hR0 := hI0.2.2.2.1
  have hb := hB0.1
  have hN6 := hb.2.2.2.2.1
  have hC8 := hb.2.1
  have hR8 := hb.2.2.2.1
  have ha := zSt_ar hs 533 519 rfl
  have post : ∃ P : zR → zH → Prop, (fun r' h' => ∃ x I', r' = .inl (some (.int x)) ∧ h' = (I', g) ∧ x = crwV S.2.2.1 k ∧ I' 74 0 = nI 0 ∧ rQ I I') = P := ⟨_, rfl⟩
  refine zJ_aload_n dX13_crowd_0 rfl ?_
  refine zJ_iconst (v := nI 0) dX13_crowd_1 rfl ?_
  refine zP_puti lf_X13_107 (zSt_ob hs 74 13 rfl) rfl dX13_crowd_2 ?_
  refine zJ_aload_n dX13_crowd_5 rfl ?_
  refine zJ_iload_n dX13_crowd_6 rfl ?_
  refine zJ_iconst (v := nI 0) dX13_crowd_7 rfl ?_
  refine zJ_iconst (v := nI 1) dX13_crowd_8 rfl ?_
  refine zP_callSi [_, _, _] _ ls_X13_141 (k_in (d := d - 1) hl (by omega)) rfl (by omega) (Nat.le_of_ble_eq_true rfl) rfl dX13_crowd_9 ?_
  rw [show decide (¬ (nI k) < (nI 0) ∧ (nI k) ≤ (nI 1)) = true from in_ok (by omega) (by omega) (by omega)]
  refine zJ_if_ne 19 dX13_crowd_12 (by decide) (fun _ => ?_) (fun c12 => absurd c12 (by decide))
  refine zJ_iconst (v := nI 0) dX13_crowd_19 rfl ?_
  refine zJ_iconst (v := nI 1) dX13_crowd_20 rfl ?_
  refine zJ_iconst (v := nI 1) dX13_crowd_21 rfl ?_
  refine zP_callVi [_, _, _] _ lv_X13_186 (m_badF (d := d - 1) hl (by omega) hs thr_at) (zSt_ob hs 74 13 rfl) rfl (by omega) (Nat.le_of_ble_eq_true rfl) rfl dX13_crowd_22 ?_
  refine zJ_if_eq 30 dX13_crowd_25 (by decide) (fun _ => ?_) (fun c25 => absurd rfl c25)
  refine zJ_iconst (v := nI 0) dX13_crowd_30 rfl ?_
  refine zJ_istore_m 2 dX13_crowd_31 rfl (Nat.le_of_ble_eq_true rfl) (by decide) ?_
  refine zJ_iconst (v := nI 0) dX13_crowd_32 rfl ?_
  refine zJ_istore_m 3 dX13_crowd_33 rfl (Nat.le_of_ble_eq_true rfl) (by decide) ?_
  obtain ⟨J, hJ⟩ : ∃ J, zup I 74 0 (nI 0) = J := ⟨_, rfl⟩
  have hJ0 : J 74 0 = nI 0 := by rw [← hJ]; exact thr_at
  have hJQ : rQ I J := by rw [← hJ]; exact rQ_thr
  rw [hJ] at hB0 hR0 ⊢
  have hu6 : ∀ q, usn S.2.2.1 q ≤ 6 := fun q => cB_le
  have loop : ∀ m p, p + m = 64 → zJ l Xi mX13_crowd d 0 0 34 [some (.ref 74), some (.int (nI k)), some (.int (nI (crwN S.2.2.1 (p - 1)))), some (.int (nI p))] [] (J, g) (fun r' h' => ∃ x I', r' = .inl (some (.int x)) ∧ h' = (I', g) ∧ x = crwV S.2.2.1 k ∧ I' 74 0 = nI 0 ∧ rQ I I') := by
    intro m
    induction m with
    | zero =>
      intro p hp
      obtain rfl : p = 64 := by omega
      have hc : crwN S.2.2.1 (64 - 1) ≤ 63 := crw_lt
      have hkk : k = 0 ∨ k = 1 := by omega
      rcases hkk with rfl | rfl
      · skip
        refine zJ_iload_n dX13_crowd_34 rfl ?_
        refine zJ_bipush (v := nI 64) dX13_crowd_35 rfl ?_
        refine zJ_icmp_ge 79 dX13_crowd_37 (by decide) (fun _ => ?_) (fun c37 => absurd (nI_le (by omega) (by omega)) c37)
        refine zJ_iload_n dX13_crowd_79 rfl ?_
        refine zJ_if_ne 90 dX13_crowd_80 (by decide) (fun c80 => absurd rfl c80) (fun _ => ?_)
        refine zJ_iload_n dX13_crowd_83 rfl ?_
        refine zP_callSi [_] _ ls_X13_443 (m_asTold (d := d - 1) hl (by omega) (by omega)) rfl (by omega) (Nat.le_of_ble_eq_true rfl) rfl dX13_crowd_84 ?_
        refine zJ_goto 102 dX13_crowd_87 (by decide) ?_
        refine zJ_iret rfl dX13_crowd_102 ?_
        exact ⟨_, J, rfl, rfl, rfl, hJ0, hJQ⟩
      · skip
        refine zJ_iload_n dX13_crowd_34 rfl ?_
        refine zJ_bipush (v := nI 64) dX13_crowd_35 rfl ?_
        refine zJ_icmp_ge 79 dX13_crowd_37 (by decide) (fun _ => ?_) (fun c37 => absurd (nI_le (by omega) (by omega)) c37)
        refine zJ_iload_n dX13_crowd_79 rfl ?_
        refine zJ_if_ne 90 dX13_crowd_80 (by decide) (fun _ => ?_) (fun c80 => absurd c80 (by decide))
        refine zJ_aload_n dX13_crowd_90 rfl ?_
        refine zJ_aload_n dX13_crowd_91 rfl ?_
        refine zP_getr lf_X13_70 (zSt_ob hs 74 13 rfl) rfl (zSt_rf hs 74 30 533 rfl) dX13_crowd_92 ?_
        refine zJ_iload_n dX13_crowd_95 rfl ?_
        refine zP_callVi [_, _] _ lv_X13_291 (k_users (d := d - 1) hl (by omega) hs hB0 ha (by omega)) (zSt_ob hs 74 13 rfl) rfl (by omega) (Nat.le_of_ble_eq_true rfl) rfl dX13_crowd_96 ?_
        refine zP_callSi [_] _ ls_X13_295 (k_ones (d := d - 1) hl (by omega)) rfl (by omega) (Nat.le_of_ble_eq_true rfl) rfl dX13_crowd_99 ?_
        rw [on_F hN6, r_users hb hR0 hok.2.1 (by omega)]
        refine zJ_iret rfl dX13_crowd_102 ?_
        exact ⟨_, J, rfl, rfl, rfl, hJ0, hJQ⟩
    | succ m ih =>
      intro p hp
      have hc := crw_lt (R := S.2.2.1) (k := p - 1)
      have IH := ih (p + 1) (by omega)
      rw [Nat.add_sub_cancel] at IH
      have u1 := hu6 p
      have u2 := hu6 (crwN S.2.2.1 (p - 1))
      refine zJ_iload_n dX13_crowd_34 rfl ?_
      refine zJ_bipush (v := nI 64) dX13_crowd_35 rfl ?_
      refine zJ_icmp_ge 79 dX13_crowd_37 (by decide) (fun c37 => absurd c37 (nI_ge (by omega) (by omega))) (fun _ => ?_)
      refine zJ_aload_n dX13_crowd_40 rfl ?_
      refine zJ_aload_n dX13_crowd_41 rfl ?_
      refine zP_getr lf_X13_70 (zSt_ob hs 74 13 rfl) rfl (zSt_rf hs 74 30 533 rfl) dX13_crowd_42 ?_
      refine zJ_iload_n dX13_crowd_45 rfl ?_
      refine zP_callVi [_, _] _ lv_X13_291 (k_users (d := d - 1) hl (by omega) hs hB0 ha (by omega)) (zSt_ob hs 74 13 rfl) rfl (by omega) (Nat.le_of_ble_eq_true rfl) rfl dX13_crowd_46 ?_
      refine zP_callSi [_] _ ls_X13_295 (k_ones (d := d - 1) hl (by omega)) rfl (by omega) (Nat.le_of_ble_eq_true rfl) rfl dX13_crowd_49 ?_
      rw [on_F hN6, r_users hb hR0 hok.2.1 (by omega)]
      refine zJ_aload_n dX13_crowd_52 rfl ?_
      refine zJ_aload_n dX13_crowd_53 rfl ?_
      refine zP_getr lf_X13_70 (zSt_ob hs 74 13 rfl) rfl (zSt_rf hs 74 30 533 rfl) dX13_crowd_54 ?_
      refine zJ_iload_n dX13_crowd_57 rfl ?_
      refine zP_callVi [_, _] _ lv_X13_291 (k_users (d := d - 1) hl (by omega) hs hB0 ha (by omega)) (zSt_ob hs 74 13 rfl) rfl (by omega) (Nat.le_of_ble_eq_true rfl) rfl dX13_crowd_58 ?_
      refine zP_callSi [_] _ ls_X13_295 (k_ones (d := d - 1) hl (by omega)) rfl (by omega) (Nat.le_of_ble_eq_true rfl) rfl dX13_crowd_61 ?_
      rw [on_F hN6, r_users hb hR0 hok.2.1 (by omega)]
      refine zJ_icmp_le 71 dX13_crowd_64 (by decide) (fun c64 => ?_) (fun c64 => ?_)
      · skip
        refine zJ_iload_n dX13_crowd_71 rfl ?_
        refine zJ_istore_m 2 dX13_crowd_72 rfl (Nat.le_of_ble_eq_true rfl) (by decide) ?_
        refine zJ_iinc1 dX13_crowd_73 rfl (by decide) ?_
        refine zJ_goto 34 dX13_crowd_76 (by decide) ?_
        have e : ¬ usn S.2.2.1 (crwN S.2.2.1 (p - 1)) < usn S.2.2.1 p := by have := (nI_leI (by omega) (by omega)).mp c64; omega
        rw [crw_no e] at IH
        exact zJ_back (zle_r (zle_r (zle_r (zle_r zle_0)))) rfl IH
      · skip
        refine zJ_iload_n dX13_crowd_67 rfl ?_
        refine zJ_goto 72 dX13_crowd_68 (by decide) ?_
        refine zJ_istore_m 2 dX13_crowd_72 rfl (Nat.le_of_ble_eq_true rfl) (by decide) ?_
        refine zJ_iinc1 dX13_crowd_73 rfl (by decide) ?_
        refine zJ_goto 34 dX13_crowd_76 (by decide) ?_
        have e : usn S.2.2.1 (crwN S.2.2.1 (p - 1)) < usn S.2.2.1 p := Nat.lt_of_not_le (fun z => c64 ((nI_leI (by omega) (by omega)).mpr z))
        rw [crw_st e] at IH
        exact zJ_back (zle_r (zle_r (zle_r (zle_r zle_0)))) rfl IH
  exact loop 64 0 (by omega)
def tg0 : Option (Nat × Int32) → Int32
  | none => -1
  | some q => nI q.1
theorem tgN_val {b : zWo} {R : rwT} : ∀ {k : Nat} {q : Nat × Int32}, tgN b R k = some q → q.2 = blm b q.1 - sDel b R q.1
  | 0, q, h => by cases h
  | k + 1, q, h => by
    simp only [tgN] at h
    split at h
    · cases e : tgN b R k with
      | none => rw [e] at h; cases h; rfl
      | some q' =>
        have := tgN_val e
        rw [e] at h
        simp only at h
        split at h
        · cases h; rfl
        · cases h; exact this
    · exact tgN_val h
theorem m_tight (hl : l.stackTraces = false) (hd : 12 ≤ d) (hs : zSt g) {S : sT} (hI : rI I S) (hok : okS S) {k : Nat} (hk : k ≤ 1) : zEi l Xi mX13_tight d [.ref 74, .int (nI k)] I g (fun v J => v = tgV S.2.1 S.2.2.1 k ∧ J 74 0 = nI 0 ∧ rQ I J) := by
  refine zC_of hl rfl rfl rfl (Nat.le_of_ble_eq_true rfl) (zav_r (zSt_ob hs 74 13 rfl).1 (zav_i zav_0)) ?_
  have hI0 := rI_rQ hI (rQ_thr (x := nI 0))
  have hB0 := hI0.2.2.1
  have hR0 := hI0.2.2.2.1
  have hb := hB0.1
  have hN6 := hb.2.2.2.2.1
  have hC8 := hb.2.1
  have hR8 := hb.2.2.2.1
  have ha := zSt_ar hs 533 519 rfl
  refine zJ_aload_n dX13_tight_0 rfl ?_
  refine zJ_iconst (v := nI 0) dX13_tight_1 rfl ?_
  refine zP_puti lf_X13_107 (zSt_ob hs 74 13 rfl) rfl dX13_tight_2 ?_
  refine zJ_aload_n dX13_tight_5 rfl ?_
  refine zJ_iload_n dX13_tight_6 rfl ?_
  refine zJ_iconst (v := nI 0) dX13_tight_7 rfl ?_
  refine zJ_iconst (v := nI 1) dX13_tight_8 rfl ?_
  refine zP_callSi [_, _, _] _ ls_X13_141 (k_in (d := d - 1) hl (by omega)) rfl (by omega) (Nat.le_of_ble_eq_true rfl) rfl dX13_tight_9 ?_
  rw [show decide (¬ (nI k) < (nI 0) ∧ (nI k) ≤ (nI 1)) = true from in_ok (by omega) (by omega) (by omega)]
  refine zJ_if_ne 19 dX13_tight_12 (by decide) (fun _ => ?_) (fun c12 => absurd c12 (by decide))
  refine zJ_iconst (v := nI 0) dX13_tight_19 rfl ?_
  refine zJ_iconst (v := nI 1) dX13_tight_20 rfl ?_
  refine zJ_iconst (v := nI 1) dX13_tight_21 rfl ?_
  refine zP_callVi [_, _, _] _ lv_X13_186 (m_badF (d := d - 1) hl (by omega) hs thr_at) (zSt_ob hs 74 13 rfl) rfl (by omega) (Nat.le_of_ble_eq_true rfl) rfl dX13_tight_22 ?_
  refine zJ_if_eq 30 dX13_tight_25 (by decide) (fun _ => ?_) (fun c25 => absurd rfl c25)
  refine zJ_iconst (v := -1) dX13_tight_30 rfl ?_
  refine zJ_istore_m 2 dX13_tight_31 rfl (Nat.le_of_ble_eq_true rfl) (by decide) ?_
  refine zJ_iconst (v := nI 0) dX13_tight_32 rfl ?_
  refine zJ_istore_m 3 dX13_tight_33 rfl (Nat.le_of_ble_eq_true rfl) (by decide) ?_
  obtain ⟨J, hJ⟩ : ∃ J, zup I 74 0 (nI 0) = J := ⟨_, rfl⟩
  have hJ0 : J 74 0 = nI 0 := by rw [← hJ]; exact thr_at
  have hJQ : rQ I J := by rw [← hJ]; exact rQ_thr
  rw [hJ] at hB0 hR0 ⊢
  have hNN : J 78 (nI 2).toNatClampNeg = nI (bN S.2.1) := by rw [nI_clamp (by omega)]; exact hB0.2.1.2.2.1
  have loop : ∀ m n, n + m = bN S.2.1 → zJ l Xi mX13_tight d 0 0 34 [some (.ref 74), some (.int (nI k)), some (.int (tg0 (tgN S.2.1 S.2.2.1 n))), some (.int (nI n))] [] (J, g) (fun r' h' => ∃ x I', r' = .inl (some (.int x)) ∧ h' = (I', g) ∧ x = tgV S.2.1 S.2.2.1 k ∧ I' 74 0 = nI 0 ∧ rQ I I') := by
    intro m
    induction m with
    | zero =>
      intro n hn
      obtain rfl : n = bN S.2.1 := by omega
      unfold tgV
      cases hq : tgN S.2.1 S.2.2.1 (bN S.2.1) with
      | none =>
        refine zJ_iload_n dX13_tight_34 rfl ?_
        refine zJ_aload_n dX13_tight_35 rfl ?_
        refine zP_getr lf_X13_23 (zSt_ob hs 74 13 rfl) rfl (zSt_rf hs 74 12 78 rfl) dX13_tight_36 ?_
        refine zJ_iconst (v := nI 2) dX13_tight_39 rfl ?_
        refine zP_iald (zSt_ar hs 78 4 rfl) (by first | assumption | with_reducible exact vp_in_nI (by omega) (by omega) | (simp (disch := omega) only [nI_add, pk_mul, pk_sub, pk_div, pk_rem, nI_clamp]; with_reducible exact vp_in_nI (by omega) (by omega))) dX13_tight_40 ?_
        refine zJ_icmp_ge 126 dX13_tight_41 (by decide) (fun _ => ?_) (fun c41 => absurd (by rw [hNN]; exact nI_le (by omega) (by omega)) c41)
        refine zJ_iload_n dX13_tight_126 rfl ?_
        refine zJ_iconst (v := -1) dX13_tight_127 rfl ?_
        refine zJ_icmp_ne 135 dX13_tight_128 (by decide) (fun c128 => absurd rfl c128) (fun _ => ?_)
        refine zJ_sipush (v := -1000) dX13_tight_131 rfl ?_
        refine zJ_iret rfl dX13_tight_134 ?_
        exact ⟨_, J, rfl, rfl, by split <;> rfl, hJ0, hJQ⟩
      | some q =>
        have hq1 := tgN_lt hq
        have hq2 := tgN_val hq
        have hkk : k = 0 ∨ k = 1 := by omega
        rcases hkk with rfl | rfl
        · skip
          refine zJ_iload_n dX13_tight_34 rfl ?_
          refine zJ_aload_n dX13_tight_35 rfl ?_
          refine zP_getr lf_X13_23 (zSt_ob hs 74 13 rfl) rfl (zSt_rf hs 74 12 78 rfl) dX13_tight_36 ?_
          refine zJ_iconst (v := nI 2) dX13_tight_39 rfl ?_
          refine zP_iald (zSt_ar hs 78 4 rfl) (by first | assumption | with_reducible exact vp_in_nI (by omega) (by omega) | (simp (disch := omega) only [nI_add, pk_mul, pk_sub, pk_div, pk_rem, nI_clamp]; with_reducible exact vp_in_nI (by omega) (by omega))) dX13_tight_40 ?_
          refine zJ_icmp_ge 126 dX13_tight_41 (by decide) (fun _ => ?_) (fun c41 => absurd (by rw [hNN]; exact nI_le (by omega) (by omega)) c41)
          refine zJ_iload_n dX13_tight_126 rfl ?_
          refine zJ_iconst (v := -1) dX13_tight_127 rfl ?_
          refine zJ_icmp_ne 135 dX13_tight_128 (by decide) (fun _ => ?_) (fun c128 => absurd c128 (show ¬ nI q.1 = -1 from nI_ne1 (by omega)))
          refine zJ_iload_n dX13_tight_135 rfl ?_
          refine zJ_if_ne 143 dX13_tight_136 (by decide) (fun c136 => absurd rfl c136) (fun _ => ?_)
          refine zJ_iload_n dX13_tight_139 rfl ?_
          refine zJ_goto 161 dX13_tight_140 (by decide) ?_
          refine zJ_iret rfl dX13_tight_161 ?_
          exact ⟨_, J, rfl, rfl, rfl, hJ0, hJQ⟩
        · skip
          refine zJ_iload_n dX13_tight_34 rfl ?_
          refine zJ_aload_n dX13_tight_35 rfl ?_
          refine zP_getr lf_X13_23 (zSt_ob hs 74 13 rfl) rfl (zSt_rf hs 74 12 78 rfl) dX13_tight_36 ?_
          refine zJ_iconst (v := nI 2) dX13_tight_39 rfl ?_
          refine zP_iald (zSt_ar hs 78 4 rfl) (by first | assumption | with_reducible exact vp_in_nI (by omega) (by omega) | (simp (disch := omega) only [nI_add, pk_mul, pk_sub, pk_div, pk_rem, nI_clamp]; with_reducible exact vp_in_nI (by omega) (by omega))) dX13_tight_40 ?_
          refine zJ_icmp_ge 126 dX13_tight_41 (by decide) (fun _ => ?_) (fun c41 => absurd (by rw [hNN]; exact nI_le (by omega) (by omega)) c41)
          refine zJ_iload_n dX13_tight_126 rfl ?_
          refine zJ_iconst (v := -1) dX13_tight_127 rfl ?_
          refine zJ_icmp_ne 135 dX13_tight_128 (by decide) (fun _ => ?_) (fun c128 => absurd c128 (show ¬ nI q.1 = -1 from nI_ne1 (by omega)))
          refine zJ_iload_n dX13_tight_135 rfl ?_
          refine zJ_if_ne 143 dX13_tight_136 (by decide) (fun _ => ?_) (fun c136 => absurd c136 (by decide))
          refine zJ_aload_n dX13_tight_143 rfl ?_
          refine zP_getr lf_X13_40 (zSt_ob hs 74 13 rfl) rfl (zSt_rf hs 74 17 89 rfl) dX13_tight_144 ?_
          refine zJ_iload_n dX13_tight_147 rfl ?_
          show zJ _ _ _ _ _ _ _ _ (.int (nI q.1) :: _) _ _
          refine zP_rowK (k := q.1) (zSt_g89 hs) (by omega) (by decide) dX13_tight_148 ?_
          refine zJ_iconst (v := nI 1) dX13_tight_149 rfl ?_
          refine zP_iald (zGr_ar (zSt_g89 hs) (i := q.1) (by omega)) (by first | assumption | with_reducible exact vp_in_nI (by omega) (by omega) | (simp (disch := omega) only [nI_add, pk_mul, pk_sub, pk_div, pk_rem, nI_clamp]; with_reducible exact vp_in_nI (by omega) (by omega))) dX13_tight_150 ?_
          refine zJ_aload_n dX13_tight_151 rfl ?_
          refine zJ_aload_n dX13_tight_152 rfl ?_
          refine zP_getr lf_X13_70 (zSt_ob hs 74 13 rfl) rfl (zSt_rf hs 74 30 533 rfl) dX13_tight_153 ?_
          rw [nI_clamp (by omega), (hB0.2.2.2.1 q.1 hq1).1]
          refine zJ_iload_n dX13_tight_156 rfl ?_
          show zJ _ _ _ _ _ _ _ _ (.int (nI q.1) :: _) _ _
          refine zP_callVi [_, _] _ lv_X13_393 (m_delay (n := q.1) (d := d - 1) hl (by omega) hs hB0 ha hR0 hok.2.1 hq1) (zSt_ob hs 74 13 rfl) rfl (by omega) (Nat.le_of_ble_eq_true rfl) rfl dX13_tight_157 ?_
          refine zJ_isub dX13_tight_160 ?_
          refine zJ_iret rfl dX13_tight_161 ?_
          exact ⟨_, J, rfl, rfl, hq2.symm, hJ0, hJQ⟩
    | succ m ih =>
      intro n hn
      have hn6 : n < 6 := by omega
      have hnN : n < bN S.2.1 := by omega
      have IH := ih (n + 1) (by omega)
      have hpc := hB0.2.2.2.1 n hnN
      have hp4 := hb.2.2.2.2.2.1 n hn6
      have ht : ∀ v, tgB S.2.1 S.2.2.1 n = v → (tgN S.2.1 S.2.2.1 (n + 1) = if v then (match tgN S.2.1 S.2.2.1 n with
          | none => some (n, blm S.2.1 n - sDel S.2.1 S.2.2.1 n)
          | some q => if blm S.2.1 n - sDel S.2.1 S.2.2.1 n < q.2 then some (n, blm S.2.1 n - sDel S.2.1 S.2.2.1 n) else some q) else tgN S.2.1 S.2.2.1 n) := fun v hv => by rw [← hv]; rfl
      refine zJ_iload_n dX13_tight_34 rfl ?_
      refine zJ_aload_n dX13_tight_35 rfl ?_
      refine zP_getr lf_X13_23 (zSt_ob hs 74 13 rfl) rfl (zSt_rf hs 74 12 78 rfl) dX13_tight_36 ?_
      refine zJ_iconst (v := nI 2) dX13_tight_39 rfl ?_
      refine zP_iald (zSt_ar hs 78 4 rfl) (by first | assumption | with_reducible exact vp_in_nI (by omega) (by omega) | (simp (disch := omega) only [nI_add, pk_mul, pk_sub, pk_div, pk_rem, nI_clamp]; with_reducible exact vp_in_nI (by omega) (by omega))) dX13_tight_40 ?_
      refine zJ_icmp_ge 126 dX13_tight_41 (by decide) (fun c41 => absurd c41 (by rw [hNN]; exact nI_ge (by omega) (by omega))) (fun _ => ?_)
      refine zJ_aload_n dX13_tight_44 rfl ?_
      refine zP_getr lf_X13_40 (zSt_ob hs 74 13 rfl) rfl (zSt_rf hs 74 17 89 rfl) dX13_tight_45 ?_
      refine zJ_iload_n dX13_tight_48 rfl ?_
      refine zP_rowK (k := n) (zSt_g89 hs) (by omega) (by decide) dX13_tight_49 ?_
      refine zJ_iconst (v := nI 2) dX13_tight_50 rfl ?_
      refine zP_iald (zGr_ar (zSt_g89 hs) (i := n) (by omega)) (by first | assumption | with_reducible exact vp_in_nI (by omega) (by omega) | (simp (disch := omega) only [nI_add, pk_mul, pk_sub, pk_div, pk_rem, nI_clamp]; with_reducible exact vp_in_nI (by omega) (by omega))) dX13_tight_51 ?_
      rw [nI_clamp (by omega), hpc.2]
      refine zJ_if_eq 120 dX13_tight_52 (by decide) (fun c52 => ?_) (fun c52 => ?_)
      · skip
        refine zJ_iinc1 dX13_tight_120 rfl (by decide) ?_
        refine zJ_goto 34 dX13_tight_123 (by decide) ?_
        have e : tgB S.2.1 S.2.2.1 n = false := by unfold tgB; rw [decide_eq_false (fun z => absurd c52 (nI_ne0 z (by omega)))]; rfl
        rw [ht _ e] at IH
        exact zJ_back (zle_r (zle_r (zle_r (zle_r zle_0)))) rfl IH
      · skip
        refine zJ_aload_n dX13_tight_55 rfl ?_
        refine zJ_aload_n dX13_tight_56 rfl ?_
        refine zP_getr lf_X13_70 (zSt_ob hs 74 13 rfl) rfl (zSt_rf hs 74 30 533 rfl) dX13_tight_57 ?_
        refine zJ_iload_n dX13_tight_60 rfl ?_
        refine zP_callVi [_, _] _ lv_X13_312 (m_isJoined (d := d - 1) hl (by omega) hs hB0 ha hR0 hnN) (zSt_ob hs 74 13 rfl) rfl (by omega) (Nat.le_of_ble_eq_true rfl) rfl dX13_tight_61 ?_
        refine zJ_if_ne 70 dX13_tight_64 (by decide) (fun c64 => ?_) (fun c64 => ?_)
        · replace c64 := zb1.mp c64
          have e : tgB S.2.1 S.2.2.1 n = true := by unfold tgB; rw [c64, decide_eq_true (Nat.pos_of_ne_zero (fun z => c52 (by rw [z]; rfl)))]; rfl
          rw [ht _ e, if_pos rfl] at IH
          cases hq : tgN S.2.1 S.2.2.1 n with
          | none =>
            rw [hq] at IH
            refine zJ_iload_n dX13_tight_70 rfl ?_
            refine zJ_iconst (v := -1) dX13_tight_71 rfl ?_
            refine zJ_icmp_eq 114 dX13_tight_72 (by decide) (fun _ => ?_) (fun c72 => absurd rfl c72)
            refine zJ_iload_n dX13_tight_114 rfl ?_
            refine zJ_goto 119 dX13_tight_115 (by decide) ?_
            refine zJ_istore_m 2 dX13_tight_119 rfl (Nat.le_of_ble_eq_true rfl) (by decide) ?_
            refine zJ_iinc1 dX13_tight_120 rfl (by decide) ?_
            refine zJ_goto 34 dX13_tight_123 (by decide) ?_
            exact zJ_back (zle_r (zle_r (zle_r (zle_r zle_0)))) rfl IH
          | some q =>
            have hq1 := tgN_lt hq
            have hq2 := tgN_val hq
            rw [hq] at IH
            simp only at IH
            refine zJ_iload_n dX13_tight_70 rfl ?_
            refine zJ_iconst (v := -1) dX13_tight_71 rfl ?_
            refine zJ_icmp_eq 114 dX13_tight_72 (by decide) (fun c72 => absurd c72 (show ¬ nI q.1 = -1 from nI_ne1 (by omega))) (fun _ => ?_)
            refine zJ_aload_n dX13_tight_75 rfl ?_
            refine zP_getr lf_X13_40 (zSt_ob hs 74 13 rfl) rfl (zSt_rf hs 74 17 89 rfl) dX13_tight_76 ?_
            refine zJ_iload_n dX13_tight_79 rfl ?_
            refine zP_rowK (k := n) (zSt_g89 hs) (by omega) (by decide) dX13_tight_80 ?_
            refine zJ_iconst (v := nI 1) dX13_tight_81 rfl ?_
            refine zP_iald (zGr_ar (zSt_g89 hs) (i := n) (by omega)) (by first | assumption | with_reducible exact vp_in_nI (by omega) (by omega) | (simp (disch := omega) only [nI_add, pk_mul, pk_sub, pk_div, pk_rem, nI_clamp]; with_reducible exact vp_in_nI (by omega) (by omega))) dX13_tight_82 ?_
            rw [nI_clamp (by omega), hpc.1]
            refine zJ_aload_n dX13_tight_83 rfl ?_
            refine zJ_aload_n dX13_tight_84 rfl ?_
            refine zP_getr lf_X13_70 (zSt_ob hs 74 13 rfl) rfl (zSt_rf hs 74 30 533 rfl) dX13_tight_85 ?_
            refine zJ_iload_n dX13_tight_88 rfl ?_
            refine zP_callVi [_, _] _ lv_X13_393 (m_delay (d := d - 1) hl (by omega) hs hB0 ha hR0 hok.2.1 hnN) (zSt_ob hs 74 13 rfl) rfl (by omega) (Nat.le_of_ble_eq_true rfl) rfl dX13_tight_89 ?_
            refine zJ_isub dX13_tight_92 ?_
            refine zJ_aload_n dX13_tight_93 rfl ?_
            refine zP_getr lf_X13_40 (zSt_ob hs 74 13 rfl) rfl (zSt_rf hs 74 17 89 rfl) dX13_tight_94 ?_
            refine zJ_iload_n dX13_tight_97 rfl ?_
            refine zP_rowK (k := q.1) (zSt_g89 hs) (by omega) (by decide) dX13_tight_98 ?_
            refine zJ_iconst (v := nI 1) dX13_tight_99 rfl ?_
            refine zP_iald (zGr_ar (zSt_g89 hs) (i := q.1) (by omega)) (by first | assumption | with_reducible exact vp_in_nI (by omega) (by omega) | (simp (disch := omega) only [nI_add, pk_mul, pk_sub, pk_div, pk_rem, nI_clamp]; with_reducible exact vp_in_nI (by omega) (by omega))) dX13_tight_100 ?_
            rw [nI_clamp (by omega), (hB0.2.2.2.1 q.1 (by omega)).1]
            refine zJ_aload_n dX13_tight_101 rfl ?_
            refine zJ_aload_n dX13_tight_102 rfl ?_
            refine zP_getr lf_X13_70 (zSt_ob hs 74 13 rfl) rfl (zSt_rf hs 74 30 533 rfl) dX13_tight_103 ?_
            refine zJ_iload_n dX13_tight_106 rfl ?_
            refine zP_callVi [_, _] _ lv_X13_393 (m_delay (n := q.1) (d := d - 1) hl (by omega) hs hB0 ha hR0 hok.2.1 (by omega)) (zSt_ob hs 74 13 rfl) rfl (by omega) (Nat.le_of_ble_eq_true rfl) rfl dX13_tight_107 ?_
            refine zJ_isub dX13_tight_110 ?_
            rw [← hq2]
            refine zJ_icmp_ge 118 dX13_tight_111 (by decide) (fun c111 => ?_) (fun c111 => ?_)
            · skip
              refine zJ_iload_n dX13_tight_118 rfl ?_
              refine zJ_istore_m 2 dX13_tight_119 rfl (Nat.le_of_ble_eq_true rfl) (by decide) ?_
              refine zJ_iinc1 dX13_tight_120 rfl (by decide) ?_
              refine zJ_goto 34 dX13_tight_123 (by decide) ?_
              rw [if_neg (show ¬ blm S.2.1 n - sDel S.2.1 S.2.2.1 n < q.2 from Int32.not_lt.mpr c111)] at IH
              exact zJ_back (zle_r (zle_r (zle_r (zle_r zle_0)))) rfl IH
            · skip
              refine zJ_iload_n dX13_tight_114 rfl ?_
              refine zJ_goto 119 dX13_tight_115 (by decide) ?_
              refine zJ_istore_m 2 dX13_tight_119 rfl (Nat.le_of_ble_eq_true rfl) (by decide) ?_
              refine zJ_iinc1 dX13_tight_120 rfl (by decide) ?_
              refine zJ_goto 34 dX13_tight_123 (by decide) ?_
              rw [if_pos (show blm S.2.1 n - sDel S.2.1 S.2.2.1 n < q.2 from Int32.not_le.mp c111)] at IH
              exact zJ_back (zle_r (zle_r (zle_r (zle_r zle_0)))) rfl IH
        · replace c64 := zb0.mp c64
          refine zJ_goto 120 dX13_tight_67 (by decide) ?_
          refine zJ_iinc1 dX13_tight_120 rfl (by decide) ?_
          refine zJ_goto 34 dX13_tight_123 (by decide) ?_
          have e : tgB S.2.1 S.2.2.1 n = false := by unfold tgB; rw [c64, Bool.and_false]
          rw [ht _ e] at IH
          exact zJ_back (zle_r (zle_r (zle_r (zle_r zle_0)))) rfl IH
  exact zJ_back (zle_r (zle_r (zle_i rfl (zle_r zle_0)))) rfl (loop (bN S.2.1) 0 (by omega))
end ZRefZ
