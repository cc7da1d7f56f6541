/-! ===== the reference: fits, look ===== -/
section ZRefAA
variable {l : Launch} {Xi : zXi} {d : Nat} {I : zI} {g : zG}
theorem fst1_no {ok : Nat → Bool} {j : Nat} (h : ok j = false) : fst1 ok (j + 1) = fst1 ok j := by
  simp only [fst1]
  cases e : fst1 ok j with
  | some i => rfl
  | none => simp [h]
theorem rQ_535 {J : zI} (h : rH 535 I J) : rQ I J := rQ_rS (by omega) (rS_rH h)
theorem m_fits (hl : l.stackTraces = false) (hd : 12 ≤ d) (hs : zSt g) {S : sT} (hI : rI I S) (hok : okS S) {k : Nat} (hk : k ≤ 1) : zEi l Xi mX13_fits d [.ref 74, .int (nI k)] I g (fun v J => v = fitV S k ∧ J 74 0 = nI 0 ∧ rQ I J) := by
  refine zC_of hl rfl rfl rfl (Nat.le_of_ble_eq_true rfl) (zav_r (zSt_ob hs 74 13 rfl).1 (zav_i zav_0)) ?_
  have hI0 := rI_rQ hI (rQ_thr (x := nI 0))
  have hB0 := hI0.2.2.1
  have hR0 := hI0.2.2.2.1
  have hb := hB0.1
  have hN6 := hb.2.2.2.2.1
  have hC8 := hb.2.1
  have hR8 := hb.2.2.2.1
  have ha := zSt_ar hs 533 519 rfl
  have ho := fun j => fst1_ok (ok := okF S) (n := j)
  have post : ∃ P : zR → zH → Prop, P = (fun r' h' => ∃ x I', r' = .inl (some (.int x)) ∧ h' = (I', g) ∧ x = fitV S k ∧ I' 74 0 = nI 0 ∧ rQ I I') := ⟨_, rfl⟩
  obtain ⟨P, hP⟩ := post
  have outer : ∀ m n (J : zI), n + m = bN S.2.1 → rQ I J → J 74 0 = nI 0 → zJ l Xi mX13_fits d 0 0 37 [some (.ref 74), some (.int (nI k)), some (.int (nI (cB (okF S) (2 * n)))), some (.int (o10 (fst1 (okF S) (2 * n)))), some (.int (nI n)), none] [] (J, g) P := by
    intro m
    induction m with
    | zero =>
      intro n J hn hJQ hJ0
      obtain rfl : n = bN S.2.1 := by omega
      have hNN : J 78 (nI 2).toNatClampNeg = nI (bN S.2.1) := by rw [nI_clamp (by omega)]; exact (rB_rQ hI.2.2.1 hJQ).2.1.2.2.1
      have hkk : k = 0 ∨ k = 1 := by omega
      rw [hP]
      rcases hkk with rfl | rfl
      · skip
        refine zJ_iload dX13_fits_37 rfl ?_
        refine zJ_aload_n dX13_fits_39 rfl ?_
        refine zP_getr lf_X13_23 (zSt_ob hs 74 13 rfl) rfl (zSt_rf hs 74 12 78 rfl) dX13_fits_40 ?_
        refine zJ_iconst (v := nI 2) dX13_fits_43 rfl ?_
        refine zP_iald (zSt_ar hs 78 4 rfl) (by first | assumption | with_reducible exact vp_in_nI (by omega) (by omega) | (simp (disch := omega) only [nI_add, pk_mul, pk_sub, pk_div, pk_rem, nI_clamp]; with_reducible exact vp_in_nI (by omega) (by omega))) dX13_fits_44 ?_
        refine zJ_icmp_ge 103 dX13_fits_45 (by decide) (fun _ => ?_) (fun c45 => absurd (by rw [hNN]; exact nI_le (by omega) (by omega)) c45)
        refine zJ_iload_n dX13_fits_103 rfl ?_
        refine zJ_if_ne 111 dX13_fits_104 (by decide) (fun c104 => absurd rfl c104) (fun _ => ?_)
        refine zJ_iload_n dX13_fits_107 rfl ?_
        refine zJ_goto 112 dX13_fits_108 (by decide) ?_
        refine zJ_iret rfl dX13_fits_112 ?_
        exact ⟨_, J, rfl, rfl, rfl, hJ0, hJQ⟩
      · skip
        refine zJ_iload dX13_fits_37 rfl ?_
        refine zJ_aload_n dX13_fits_39 rfl ?_
        refine zP_getr lf_X13_23 (zSt_ob hs 74 13 rfl) rfl (zSt_rf hs 74 12 78 rfl) dX13_fits_40 ?_
        refine zJ_iconst (v := nI 2) dX13_fits_43 rfl ?_
        refine zP_iald (zSt_ar hs 78 4 rfl) (by first | assumption | with_reducible exact vp_in_nI (by omega) (by omega) | (simp (disch := omega) only [nI_add, pk_mul, pk_sub, pk_div, pk_rem, nI_clamp]; with_reducible exact vp_in_nI (by omega) (by omega))) dX13_fits_44 ?_
        refine zJ_icmp_ge 103 dX13_fits_45 (by decide) (fun _ => ?_) (fun c45 => absurd (by rw [hNN]; exact nI_le (by omega) (by omega)) c45)
        refine zJ_iload_n dX13_fits_103 rfl ?_
        refine zJ_if_ne 111 dX13_fits_104 (by decide) (fun _ => ?_) (fun c104 => absurd c104 (by decide))
        refine zJ_iload_n dX13_fits_111 rfl ?_
        refine zJ_iret rfl dX13_fits_112 ?_
        exact ⟨_, J, rfl, rfl, rfl, hJ0, hJQ⟩
    | succ m ih =>
      intro n J hn hJQ hJ0
      have hNN : J 78 (nI 2).toNatClampNeg = nI (bN S.2.1) := by rw [nI_clamp (by omega)]; exact (rB_rQ hI.2.2.1 hJQ).2.1.2.2.1
      have inner : ∀ c w (K : zI), w + c = 2 → rQ I K → K 74 0 = nI 0 → zJ l Xi mX13_fits d 0 0 51 [some (.ref 74), some (.int (nI k)), some (.int (nI (cB (okF S) (2 * n + w)))), some (.int (o10 (fst1 (okF S) (2 * n + w)))), some (.int (nI n)), some (.int (nI w))] [] (K, g) P := by
        intro c
        induction c with
        | zero =>
          intro w K hw hK hK0
          obtain rfl : w = 2 := by omega
          refine zJ_iload dX13_fits_51 rfl ?_
          refine zJ_iconst (v := nI 2) dX13_fits_53 rfl ?_
          refine zJ_icmp_ge 97 dX13_fits_54 (by decide) (fun _ => ?_) (fun c54 => absurd (nI_le (by omega) (by omega)) c54)
          refine zJ_iinc1 dX13_fits_97 rfl (by decide) ?_
          refine zJ_goto 37 dX13_fits_100 (by decide) ?_
          exact zJ_back (zle_r (zle_r (zle_r (zle_r (zle_r (zle_n zle_0)))))) rfl (ih (n + 1) K (by omega) hK hK0)
        | succ c ih2 =>
          intro w K hw hK hK0
          have hIK := rI_rQ hI hK
          have hs1 : ∀ v, okF S (2 * n + w) = v → cB (okF S) (2 * n + (w + 1)) = cB (okF S) (2 * n + w) + if v then 1 else 0 := fun v hv => by rw [← hv]; rfl
          have hcle : cB (okF S) (2 * n + w) ≤ 2 * n + w := cB_le
          have ho1 := ho (2 * n + w)
          refine zJ_iload dX13_fits_51 rfl ?_
          refine zJ_iconst (v := nI 2) dX13_fits_53 rfl ?_
          refine zJ_icmp_ge 97 dX13_fits_54 (by decide) (fun c54 => absurd c54 (nI_ge (by omega) (by omega))) (fun _ => ?_)
          refine zJ_aload_n dX13_fits_57 rfl ?_
          refine zJ_iload dX13_fits_58 rfl ?_
          refine zJ_iload dX13_fits_60 rfl ?_
          refine zP_ecallVi [_, _] _ lv_X13_434 (m_isSo (d := d - 1) hl (by omega) hs hIK.2.2.1 hIK.2.2.2.2.1 (n := n) (k := w) hIK.2.2.2.1 hok.2.1 (by omega) (by omega)) (zSt_ob hs 74 13 rfl) rfl (by omega) (Nat.le_of_ble_eq_true rfl) rfl dX13_fits_62 (fun v K2 hv => ?_)
          obtain ⟨rfl, h1, h2⟩ := hv
          refine zJ_if_ne 71 dX13_fits_65 (by decide) (fun c65 => ?_) (fun c65 => ?_)
          · replace c65 := zb1.mp c65
            have hok1 : okF S (2 * n + w) = true := c65
            have IH := ih2 (w + 1) K2 (by omega) (rQ_trans hK (rQ_535 h1)) (by rw [h1 74 (by decide) (by decide) (by decide) (by decide) (by decide)]; exact hK0)
            rw [hs1 _ hok1] at IH
            cases e : fst1 (okF S) (2 * n + w) with
            | none =>
              have e0 := ho1.2 e
              have e1 : fst1 (okF S) (2 * n + (w + 1)) = some (2 * n + w) := by show fst1 (okF S) ((2 * n + w) + 1) = _; simp only [fst1, e]; rw [if_pos hok1]
              rw [e0, e1] at IH
              rw [e0]
              refine zJ_iload_n dX13_fits_71 rfl ?_
              refine zJ_if_ne 86 dX13_fits_72 (by decide) (fun c72 => absurd rfl c72) (fun _ => ?_)
              refine zJ_bipush (v := nI 10) dX13_fits_75 rfl ?_
              refine zJ_iload dX13_fits_77 rfl ?_
              refine zJ_imul dX13_fits_79 ?_
              refine zJ_iload dX13_fits_80 rfl ?_
              refine zJ_iadd dX13_fits_82 ?_
              refine zJ_goto 87 dX13_fits_83 (by decide) ?_
              refine zJ_istore_m 3 dX13_fits_87 rfl (Nat.le_of_ble_eq_true rfl) (by decide) ?_
              refine zJ_iinc1 dX13_fits_88 rfl (by decide) ?_
              refine zJ_iinc1 dX13_fits_91 rfl (by decide) ?_
              refine zJ_goto 51 dX13_fits_94 (by decide) ?_
              refine zJ_back (zle_r (zle_r (zle_i rfl (zle_i ?_ (zle_r (zle_r zle_0)))))) rfl IH
              rw [pk_mul, nI_add]
              show nI _ = nI _
              congr 1; omega
            | some i =>
              obtain ⟨a1, a2, a3, a4⟩ := ho1.1 i e
              have e1 : fst1 (okF S) (2 * n + (w + 1)) = some i := by show fst1 (okF S) ((2 * n + w) + 1) = _; simp only [fst1, e]
              rw [e1] at IH
              refine zJ_iload_n dX13_fits_71 rfl ?_
              refine zJ_if_ne 86 dX13_fits_72 (by decide) (fun _ => ?_) (fun c72 => absurd c72 (nI_ne0 a4 (by omega)))
              refine zJ_iload_n dX13_fits_86 rfl ?_
              refine zJ_istore_m 3 dX13_fits_87 rfl (Nat.le_of_ble_eq_true rfl) (by decide) ?_
              refine zJ_iinc1 dX13_fits_88 rfl (by decide) ?_
              refine zJ_iinc1 dX13_fits_91 rfl (by decide) ?_
              refine zJ_goto 51 dX13_fits_94 (by decide) ?_
              exact zJ_back (zle_r (zle_r (zle_r (zle_r (zle_r (zle_r zle_0)))))) rfl IH
          · replace c65 := zb0.mp c65
            refine zJ_goto 91 dX13_fits_68 (by decide) ?_
            refine zJ_iinc1 dX13_fits_91 rfl (by decide) ?_
            refine zJ_goto 51 dX13_fits_94 (by decide) ?_
            have hok0 : okF S (2 * n + w) = false := c65
            have IH := ih2 (w + 1) K2 (by omega) (rQ_trans hK (rQ_535 h1)) (by rw [h1 74 (by decide) (by decide) (by decide) (by decide) (by decide)]; exact hK0)
            rw [hs1 _ hok0, show 2 * n + (w + 1) = 2 * n + w + 1 from rfl, fst1_no hok0] at IH
            exact zJ_back (zle_r (zle_r (zle_r (zle_r (zle_r (zle_r zle_0)))))) rfl IH
      refine zJ_iload dX13_fits_37 rfl ?_
      refine zJ_aload_n dX13_fits_39 rfl ?_
      refine zP_getr lf_X13_23 (zSt_ob hs 74 13 rfl) rfl (zSt_rf hs 74 12 78 rfl) dX13_fits_40 ?_
      refine zJ_iconst (v := nI 2) dX13_fits_43 rfl ?_
      refine zP_iald (zSt_ar hs 78 4 rfl) (by first | assumption | with_reducible exact vp_in_nI (by omega) (by omega) | (simp (disch := omega) only [nI_add, pk_mul, pk_sub, pk_div, pk_rem, nI_clamp]; with_reducible exact vp_in_nI (by omega) (by omega))) dX13_fits_44 ?_
      refine zJ_icmp_ge 103 dX13_fits_45 (by decide) (fun c45 => absurd c45 (by rw [hNN]; exact nI_ge (by omega) (by omega))) (fun _ => ?_)
      refine zJ_iconst (v := nI 0) dX13_fits_48 rfl ?_
      refine zJ_istore dX13_fits_49 (Nat.le_of_ble_eq_true rfl) (by decide) ?_
      exact zJ_back (zle_r (zle_r (zle_r (zle_r (zle_r (zle_r zle_0)))))) rfl (inner 2 0 J (by omega) hJQ hJ0)
  rw [← hP]
  refine zJ_aload_n dX13_fits_0 rfl ?_
  refine zJ_iconst (v := nI 0) dX13_fits_1 rfl ?_
  refine zP_puti lf_X13_107 (zSt_ob hs 74 13 rfl) rfl dX13_fits_2 ?_
  refine zJ_aload_n dX13_fits_5 rfl ?_
  refine zJ_iload_n dX13_fits_6 rfl ?_
  refine zJ_iconst (v := nI 0) dX13_fits_7 rfl ?_
  refine zJ_iconst (v := nI 1) dX13_fits_8 rfl ?_
  refine zP_callSi [_, _, _] _ ls_X13_141 (k_in (d := d - 1) hl (by omega)) rfl (by omega) (Nat.le_of_ble_eq_true rfl) rfl dX13_fits_9 ?_
  rw [show decide (¬ (nI k) < (nI 0) ∧ (nI k) ≤ (nI 1)) = true from in_ok (by omega) (by omega) (by omega)]
  refine zJ_if_ne 19 dX13_fits_12 (by decide) (fun _ => ?_) (fun c12 => absurd c12 (by decide))
  refine zJ_iconst (v := nI 0) dX13_fits_19 rfl ?_
  refine zJ_iconst (v := nI 1) dX13_fits_20 rfl ?_
  refine zJ_iconst (v := nI 1) dX13_fits_21 rfl ?_
  refine zP_callVi [_, _, _] _ lv_X13_186 (m_badF (d := d - 1) hl (by omega) hs thr_at) (zSt_ob hs 74 13 rfl) rfl (by omega) (Nat.le_of_ble_eq_true rfl) rfl dX13_fits_22 ?_
  refine zJ_if_eq 30 dX13_fits_25 (by decide) (fun _ => ?_) (fun c25 => absurd rfl c25)
  refine zJ_iconst (v := nI 0) dX13_fits_30 rfl ?_
  refine zJ_istore_m 2 dX13_fits_31 rfl (Nat.le_of_ble_eq_true rfl) (by decide) ?_
  refine zJ_iconst (v := -1) dX13_fits_32 rfl ?_
  refine zJ_istore_m 3 dX13_fits_33 rfl (Nat.le_of_ble_eq_true rfl) (by decide) ?_
  refine zJ_iconst (v := nI 0) dX13_fits_34 rfl ?_
  refine zJ_istore dX13_fits_35 (Nat.le_of_ble_eq_true rfl) (by decide) ?_
  exact zJ_back (zle_r (zle_r (zle_r (zle_r (zle_r (zle_n zle_0)))))) rfl (outer (bN S.2.1) 0 _ (by omega) rQ_thr thr_at)
noncomputable def snN (b : zWo) (R : rwT) (ok : Nat → Bool) (j p u : Nat) : Nat := cB (fun i => ok i && decide (usn (fitR b R i) p = u)) j
theorem sn_no {b : zWo} {R : rwT} {ok : Nat → Bool} {j p u : Nat} (h : ok j = false) : snN b R ok (j + 1) p u = snN b R ok j p u := by
  show snN b R ok j p u + (if (ok j && decide (usn (fitR b R j) p = u)) then 1 else 0) = _
  rw [h]; rfl
theorem sn_ne {b : zWo} {R : rwT} {ok : Nat → Bool} {j p u : Nat} (h : usn (fitR b R j) p ≠ u) : snN b R ok (j + 1) p u = snN b R ok j p u := by
  show snN b R ok j p u + (if (ok j && decide (usn (fitR b R j) p = u)) then 1 else 0) = _
  rw [decide_eq_false h, Bool.and_false]; rfl
theorem sn_yes {b : zWo} {R : rwT} {ok : Nat → Bool} {j p : Nat} (h : ok j = true) : snN b R ok (j + 1) p (usn (fitR b R j) p) = snN b R ok j p (usn (fitR b R j) p) + 1 := by
  show snN b R ok j p _ + (if (ok j && decide (usn (fitR b R j) p = _)) then 1 else 0) = _
  rw [h, decide_eq_true rfl]; rfl
def seQ (J : zI) (f : Nat → Nat → Nat) : Prop := ∀ p u, p < 64 → u < 7 → J (577 + 1 + p) u = nI (f p u)
theorem rQ_seen {p u : Nat} {x : Int32} (hp : p < 64) : rQ I (zup I (577 + 1 + p) u x) := ⟨fun a q1 q2 q3 q4 q5 q6 => zup_row (by omega), fun k _ _ => by rw [zup_row (by omega)]⟩
set_option maxHeartbeats 1000000 in
theorem m_countsUses (hl : l.stackTraces = false) (hd : 11 ≤ d) (hs : zSt g) {S : sT} (hI : rI I S) (hok : okS S) : zEv l Xi mX13_countsUses d [.ref 74] I g (fun J => rQ I J ∧ J 74 0 = I 74 0 ∧ seQ J (snN S.2.1 S.2.2.1 (okF S) (2 * bN S.2.1))) := by
  refine zC_of hl rfl rfl rfl (Nat.le_of_ble_eq_true rfl) (zav_r (zSt_ob hs 74 13 rfl).1 zav_0) ?_
  have hb := hI.2.2.1.1
  have hN6 := hb.2.2.2.2.1
  have ha5 := zSt_ar hs 535 519 rfl
  obtain ⟨P, hP⟩ : ∃ P : zR → zH → Prop, P = (fun r' h' => r' = .inl none ∧ ∃ I', h' = (I', g) ∧ rQ I I' ∧ I' 74 0 = I 74 0 ∧ seQ I' (snN S.2.1 S.2.2.1 (okF S) (2 * bN S.2.1))) := ⟨_, rfl⟩
  have count : ∀ m n (J : zI), n + m = bN S.2.1 → rQ I J → J 74 0 = I 74 0 → seQ J (snN S.2.1 S.2.2.1 (okF S) (2 * n)) → zJ l Xi mX13_countsUses d 0 0 39 [some (.ref 74), some (.int (nI n)), none, none] [] (J, g) P := by
    intro m
    induction m with
    | zero =>
      intro n J hn hJQ hJ0 hse
      obtain rfl : n = bN S.2.1 := by omega
      have hNN : J 78 (nI 2).toNatClampNeg = nI (bN S.2.1) := by rw [nI_clamp (by omega)]; exact (rB_rQ hI.2.2.1 hJQ).2.1.2.2.1
      rw [hP]
      refine zJ_iload_n dX13_countsUses_39 rfl ?_
      refine zJ_aload_n dX13_countsUses_40 rfl ?_
      refine zP_getr lf_X13_23 (zSt_ob hs 74 13 rfl) rfl (zSt_rf hs 74 12 78 rfl) dX13_countsUses_41 ?_
      refine zJ_iconst (v := nI 2) dX13_countsUses_44 rfl ?_
      refine zP_iald (zSt_ar hs 78 4 rfl) (by first | assumption | with_reducible exact vp_in_nI (by omega) (by omega) | (simp (disch := omega) only [nI_add, pk_mul, pk_sub, pk_div, pk_rem, nI_clamp]; with_reducible exact vp_in_nI (by omega) (by omega))) dX13_countsUses_45 ?_
      refine zJ_icmp_ge 114 dX13_countsUses_46 (by decide) (fun _ => ?_) (fun c46 => absurd (by rw [hNN]; exact nI_le (by omega) (by omega)) c46)
      refine zJ_vret rfl dX13_countsUses_114 ?_
      exact ⟨rfl, J, rfl, hJQ, hJ0, hse⟩
    | succ m ih =>
      intro n J hn hJQ hJ0 hse
      have hNN : J 78 (nI 2).toNatClampNeg = nI (bN S.2.1) := by rw [nI_clamp (by omega)]; exact (rB_rQ hI.2.2.1 hJQ).2.1.2.2.1
      have inner : ∀ c w (K : zI), w + c = 2 → rQ I K → K 74 0 = I 74 0 → seQ K (snN S.2.1 S.2.2.1 (okF S) (2 * n + w)) → zJ l Xi mX13_countsUses d 0 0 51 [some (.ref 74), some (.int (nI n)), some (.int (nI w)), none] [] (K, g) P := by
        intro c
        induction c with
        | zero =>
          intro w K hw hK hK0 hse
          obtain rfl : w = 2 := by omega
          refine zJ_iload_n dX13_countsUses_51 rfl ?_
          refine zJ_iconst (v := nI 2) dX13_countsUses_52 rfl ?_
          refine zJ_icmp_ge 108 dX13_countsUses_53 (by decide) (fun _ => ?_) (fun c53 => absurd (nI_le (by omega) (by omega)) c53)
          refine zJ_iinc1 dX13_countsUses_108 rfl (by decide) ?_
          refine zJ_goto 39 dX13_countsUses_111 (by decide) ?_
          exact zJ_back (zle_r (zle_r (zle_n (zle_n zle_0)))) rfl (ih (n + 1) K (by omega) hK hK0 hse)
        | succ c ih2 =>
          intro w K hw hK hK0 hse
          have hIK := rI_rQ hI hK
          obtain ⟨Q, hQ⟩ : ∃ Q, fitR S.2.1 S.2.2.1 (2 * n + w) = Q := ⟨_, rfl⟩
          have hokQ : okR S.2.1 Q := by rw [← hQ]; exact okR_fit hb hok.2.1 (by omega)
          have last : okF S (2 * n + w) = true → ∀ c p (L : zI), p + c = 64 → rQ I L → L 74 0 = I 74 0 → rRow L 535 S.2.1 Q → seQ L (fun q u => if q < p then snN S.2.1 S.2.2.1 (okF S) (2 * n + w + 1) q u else snN S.2.1 S.2.2.1 (okF S) (2 * n + w) q u) → zJ l Xi mX13_countsUses d 0 0 67 [some (.ref 74), some (.int (nI n)), some (.int (nI w)), some (.int (nI p))] [] (L, g) P := by
            intro hyes c
            induction c with
            | zero =>
              intro p L hp hL hL0 hRL hse
              obtain rfl : p = 64 := by omega
              refine zJ_iload_n dX13_countsUses_67 rfl ?_
              refine zJ_bipush (v := nI 64) dX13_countsUses_68 rfl ?_
              refine zJ_icmp_ge 102 dX13_countsUses_70 (by decide) (fun _ => ?_) (fun c70 => absurd (nI_le (by omega) (by omega)) c70)
              refine zJ_iinc1 dX13_countsUses_102 rfl (by decide) ?_
              refine zJ_goto 51 dX13_countsUses_105 (by decide) ?_
              exact zJ_back (zle_r (zle_r (zle_r (zle_n zle_0)))) rfl (ih2 (w + 1) L (by omega) hL hL0 (fun q u hq hu => by rw [hse q u hq hu]; simp only [if_pos hq]; rfl))
            | succ c ih3 =>
              intro p L hp hL hL0 hRL hse
              have hBL := rB_rQ hI.2.2.1 hL
              have hu6 : usn Q p ≤ 6 := cB_le
              have hval := hse p (usn Q p) (by omega) (by omega)
              simp only [Nat.lt_irrefl, if_false] at hval
              refine zJ_iload_n dX13_countsUses_67 rfl ?_
              refine zJ_bipush (v := nI 64) dX13_countsUses_68 rfl ?_
              refine zJ_icmp_ge 102 dX13_countsUses_70 (by decide) (fun c70 => absurd c70 (nI_ge (by omega) (by omega))) (fun _ => ?_)
              refine zJ_aload_n dX13_countsUses_73 rfl ?_
              refine zP_getr lf_X13_98 (zSt_ob hs 74 13 rfl) rfl (zSt_rf hs 74 46 577 rfl) dX13_countsUses_74 ?_
              refine zJ_iload_n dX13_countsUses_77 rfl ?_
              refine zP_rowK (k := p) (zSt_g577 hs) (by omega) (by decide) dX13_countsUses_78 ?_
              refine zJ_aload_n dX13_countsUses_79 rfl ?_
              refine zJ_aload_n dX13_countsUses_80 rfl ?_
              refine zP_getr lf_X13_76 (zSt_ob hs 74 13 rfl) rfl (zSt_rf hs 74 32 535 rfl) dX13_countsUses_81 ?_
              refine zJ_iload_n dX13_countsUses_84 rfl ?_
              refine zP_callVi [_, _] _ lv_X13_291 (k_users (d := d - 1) hl (by omega) hs hBL ha5 (by omega)) (zSt_ob hs 74 13 rfl) rfl (by omega) (Nat.le_of_ble_eq_true rfl) rfl dX13_countsUses_85 ?_
              refine zP_callSi [_] _ ls_X13_295 (k_ones (d := d - 1) hl (by omega)) rfl (by omega) (Nat.le_of_ble_eq_true rfl) rfl dX13_countsUses_88 ?_
              rw [on_F hN6, r_users hb hRL hokQ (by omega)]
              refine zJ_dup2 dX13_countsUses_91 rfl rfl ?_
              refine zP_iald (zGr_ar (zSt_g577 hs) (i := p) (by omega)) (by first | assumption | with_reducible exact vp_in_nI (by omega) (by omega) | (simp (disch := omega) only [nI_add, pk_mul, pk_sub, pk_div, pk_rem, nI_clamp]; with_reducible exact vp_in_nI (by omega) (by omega))) dX13_countsUses_92 ?_
              rw [nI_clamp (by omega), hval]
              refine zJ_iconst (v := nI 1) dX13_countsUses_93 rfl ?_
              refine zJ_iadd dX13_countsUses_94 ?_
              rw [nI_add]
              refine zP_iast (zGr_ar (zSt_g577 hs) (i := p) (by omega)) (by first | assumption | with_reducible exact vp_in_nI (by omega) (by omega) | (simp (disch := omega) only [nI_add, pk_mul, pk_sub, pk_div, pk_rem, nI_clamp]; with_reducible exact vp_in_nI (by omega) (by omega))) dX13_countsUses_95 ?_
              refine zJ_iinc1 dX13_countsUses_96 rfl (by decide) ?_
              refine zJ_goto 67 dX13_countsUses_99 (by decide) ?_
              rw [nI_clamp (by omega)]
              refine zJ_back (zle_r (zle_r (zle_r (zle_r zle_0)))) rfl (ih3 (p + 1) _ (by omega) (rQ_trans hL (rQ_seen (by omega))) (by rw [zup_row (by omega)]; exact hL0) (rRow_of hRL (zup_row (by omega))) (fun q u hq hu => ?_))
              by_cases z : q = p
              · subst z
                simp only [Nat.lt_succ_self, if_true]
                rw [zup_same]
                by_cases z2 : u = usn Q q
                · subst z2
                  rw [upd_at, ← hQ, sn_yes hyes]
                · rw [upd_ne z2, hse q u hq hu, sn_ne (by rw [hQ]; exact fun h => z2 h.symm)]
                  simp only [Nat.lt_irrefl, if_false]
              · rw [zup_row (by omega), hse q u hq hu]
                by_cases z3 : q < p
                · simp only [if_pos z3, if_pos (show q < p + 1 by omega)]
                · simp only [if_neg z3, if_neg (show ¬ q < p + 1 by omega)]
          refine zJ_iload_n dX13_countsUses_51 rfl ?_
          refine zJ_iconst (v := nI 2) dX13_countsUses_52 rfl ?_
          refine zJ_icmp_ge 108 dX13_countsUses_53 (by decide) (fun c53 => absurd c53 (nI_ge (by omega) (by omega))) (fun _ => ?_)
          refine zJ_aload_n dX13_countsUses_56 rfl ?_
          refine zJ_iload_n dX13_countsUses_57 rfl ?_
          refine zJ_iload_n dX13_countsUses_58 rfl ?_
          refine zP_ecallVi [_, _] _ lv_X13_434 (m_isSo (d := d - 1) hl (by omega) hs hIK.2.2.1 hIK.2.2.2.2.1 (n := n) (k := w) hIK.2.2.2.1 hok.2.1 (by omega) (by omega)) (zSt_ob hs 74 13 rfl) rfl (by omega) (Nat.le_of_ble_eq_true rfl) rfl dX13_countsUses_59 (fun v K2 hv => ?_)
          obtain ⟨rfl, h1, h2⟩ := hv
          have hse2 : seQ K2 (snN S.2.1 S.2.2.1 (okF S) (2 * n + w)) := fun q u hq hu => by rw [h1 (577 + 1 + q) (by omega) (by omega) (by omega) (by omega) (by omega)]; exact hse q u hq hu
          have hK20 : K2 74 0 = I 74 0 := by rw [h1 74 (by decide) (by decide) (by decide) (by decide) (by decide)]; exact hK0
          refine zJ_if_eq 102 dX13_countsUses_62 (by decide) (fun c62 => ?_) (fun c62 => ?_)
          · replace c62 := zb0.mp c62
            refine zJ_iinc1 dX13_countsUses_102 rfl (by decide) ?_
            refine zJ_goto 51 dX13_countsUses_105 (by decide) ?_
            have hok0 : okF S (2 * n + w) = false := c62
            refine zJ_back (zle_r (zle_r (zle_r (zle_n zle_0)))) rfl (ih2 (w + 1) K2 (by omega) (rQ_trans hK (rQ_535 h1)) hK20 (fun q u hq hu => ?_))
            rw [hse2 q u hq hu, show 2 * n + (w + 1) = 2 * n + w + 1 from rfl, sn_no hok0]
          · replace c62 := zb1.mp c62
            refine zJ_iconst (v := nI 0) dX13_countsUses_65 rfl ?_
            refine zJ_istore_m 3 dX13_countsUses_66 rfl (Nat.le_of_ble_eq_true rfl) (by decide) ?_
            have hok1 : okF S (2 * n + w) = true := c62
            refine zJ_back (zle_r (zle_r (zle_r (zle_r zle_0)))) rfl (last hok1 64 0 K2 (by omega) (rQ_trans hK (rQ_535 h1)) hK20 (hQ ▸ h2) (fun q u hq hu => ?_))
            simp only [Nat.not_lt_zero, if_false]
            exact hse2 q u hq hu
      refine zJ_iload_n dX13_countsUses_39 rfl ?_
      refine zJ_aload_n dX13_countsUses_40 rfl ?_
      refine zP_getr lf_X13_23 (zSt_ob hs 74 13 rfl) rfl (zSt_rf hs 74 12 78 rfl) dX13_countsUses_41 ?_
      refine zJ_iconst (v := nI 2) dX13_countsUses_44 rfl ?_
      refine zP_iald (zSt_ar hs 78 4 rfl) (by first | assumption | with_reducible exact vp_in_nI (by omega) (by omega) | (simp (disch := omega) only [nI_add, pk_mul, pk_sub, pk_div, pk_rem, nI_clamp]; with_reducible exact vp_in_nI (by omega) (by omega))) dX13_countsUses_45 ?_
      refine zJ_icmp_ge 114 dX13_countsUses_46 (by decide) (fun c46 => absurd c46 (by rw [hNN]; exact nI_ge (by omega) (by omega))) (fun _ => ?_)
      refine zJ_iconst (v := nI 0) dX13_countsUses_49 rfl ?_
      refine zJ_istore_m 2 dX13_countsUses_50 rfl (Nat.le_of_ble_eq_true rfl) (by decide) ?_
      exact zJ_back (zle_r (zle_r (zle_r (zle_n zle_0)))) rfl (inner 2 0 J (by omega) hJQ hJ0 hse)
  have zero : ∀ m p (J : zI), p + m = 64 → rQ I J → J 74 0 = I 74 0 → (∀ q u, q < p → u < 7 → J (577 + 1 + q) u = nI 0) → zJ l Xi mX13_countsUses d 0 0 2 [some (.ref 74), some (.int (nI p)), none, none] [] (J, g) P := by
    intro m
    induction m with
    | zero =>
      intro p J hp hJQ hJ0 hz
      obtain rfl : p = 64 := by omega
      refine zJ_iload_n dX13_countsUses_2 rfl ?_
      refine zJ_bipush (v := nI 64) dX13_countsUses_3 rfl ?_
      refine zJ_icmp_ge 37 dX13_countsUses_5 (by decide) (fun _ => ?_) (fun c5 => absurd (nI_le (by omega) (by omega)) c5)
      refine zJ_iconst (v := nI 0) dX13_countsUses_37 rfl ?_
      refine zJ_istore_m 1 dX13_countsUses_38 rfl (Nat.le_of_ble_eq_true rfl) (by decide) ?_
      exact zJ_back (zle_r (zle_r (zle_n (zle_n zle_0)))) rfl (count (bN S.2.1) 0 J (by omega) hJQ hJ0 (fun q u hq hu => hz q u hq hu))
    | succ m ih =>
      intro p J hp hJQ hJ0 hz
      have inner : ∀ c u (K : zI), u + c = 7 → rQ I K → K 74 0 = I 74 0 → (∀ q v, q < p → v < 7 → K (577 + 1 + q) v = nI 0) → (∀ v, v < u → K (577 + 1 + p) v = nI 0) → zJ l Xi mX13_countsUses d 0 0 10 [some (.ref 74), some (.int (nI p)), some (.int (nI u)), none] [] (K, g) P := by
        intro c
        induction c with
        | zero =>
          intro u K hu hK hK0 hz hz2
          obtain rfl : u = 7 := by omega
          refine zJ_iload_n dX13_countsUses_10 rfl ?_
          refine zJ_bipush (v := nI 6) dX13_countsUses_11 rfl ?_
          refine zJ_icmp_gt 31 dX13_countsUses_13 (by decide) (fun _ => ?_) (fun c13 => absurd (nI_lt (by omega) (by omega)) c13)
          refine zJ_iinc1 dX13_countsUses_31 rfl (by decide) ?_
          refine zJ_goto 2 dX13_countsUses_34 (by decide) ?_
          refine zJ_back (zle_r (zle_r (zle_n (zle_n zle_0)))) rfl (ih (p + 1) K (by omega) hK hK0 (fun q v hq hv => ?_))
          by_cases z : q = p
          · rw [z]; exact hz2 v hv
          · exact hz q v (by omega) hv
        | succ c ih2 =>
          intro u K hu hK hK0 hz hz2
          refine zJ_iload_n dX13_countsUses_10 rfl ?_
          refine zJ_bipush (v := nI 6) dX13_countsUses_11 rfl ?_
          refine zJ_icmp_gt 31 dX13_countsUses_13 (by decide) (fun c13 => absurd c13 (nI_nlt (by omega) (by omega))) (fun _ => ?_)
          refine zJ_aload_n dX13_countsUses_16 rfl ?_
          refine zP_getr lf_X13_98 (zSt_ob hs 74 13 rfl) rfl (zSt_rf hs 74 46 577 rfl) dX13_countsUses_17 ?_
          refine zJ_iload_n dX13_countsUses_20 rfl ?_
          refine zP_rowK (k := p) (zSt_g577 hs) (by omega) (by decide) dX13_countsUses_21 ?_
          refine zJ_iload_n dX13_countsUses_22 rfl ?_
          refine zJ_iconst (v := nI 0) dX13_countsUses_23 rfl ?_
          refine zP_iast (zGr_ar (zSt_g577 hs) (i := p) (by omega)) (by first | assumption | with_reducible exact vp_in_nI (by omega) (by omega) | (simp (disch := omega) only [nI_add, pk_mul, pk_sub, pk_div, pk_rem, nI_clamp]; with_reducible exact vp_in_nI (by omega) (by omega))) dX13_countsUses_24 ?_
          refine zJ_iinc1 dX13_countsUses_25 rfl (by decide) ?_
          refine zJ_goto 10 dX13_countsUses_28 (by decide) ?_
          rw [nI_clamp (by omega)]
          refine zJ_back (zle_r (zle_r (zle_r (zle_n zle_0)))) rfl (ih2 (u + 1) _ (by omega) (rQ_trans hK (rQ_seen (by omega))) (by rw [zup_row (by omega)]; exact hK0) (fun q v hq hv => by rw [zup_row (by omega)]; exact hz q v hq hv) (fun v hv => ?_))
          rw [zup_same]
          by_cases z : v = u
          · rw [z, upd_at]
          · rw [upd_ne z]; exact hz2 v (by omega)
      refine zJ_iload_n dX13_countsUses_2 rfl ?_
      refine zJ_bipush (v := nI 64) dX13_countsUses_3 rfl ?_
      refine zJ_icmp_ge 37 dX13_countsUses_5 (by decide) (fun c5 => absurd c5 (nI_ge (by omega) (by omega))) (fun _ => ?_)
      refine zJ_iconst (v := nI 0) dX13_countsUses_8 rfl ?_
      refine zJ_istore_m 2 dX13_countsUses_9 rfl (Nat.le_of_ble_eq_true rfl) (by decide) ?_
      exact zJ_back (zle_r (zle_r (zle_r (zle_n zle_0)))) rfl (inner 7 0 J (by omega) hJQ hJ0 hz (fun v hv => absurd hv (Nat.not_lt_zero _)))
  rw [← hP]
  refine zJ_iconst (v := nI 0) dX13_countsUses_0 rfl ?_
  refine zJ_istore_m 1 dX13_countsUses_1 rfl (Nat.le_of_ble_eq_true rfl) (by decide) ?_
  exact zJ_back (zle_r (zle_r (zle_n (zle_n zle_0)))) rfl (zero 64 0 I (by omega) rQ_rfl rfl (fun q u hq => absurd hq (Nat.not_lt_zero _)))
def mx2 (f : Nat → Nat) (u : Nat) : Int32 := nI (mxG f u)
theorem mxG_succ {f : Nat → Nat} {u : Nat} (hf : ∀ v, f v < 1000) : morI (nI (mxG f u)) (nI (f u)) = nI (mxG f (u + 1)) := by
  have h1 : mxG f u < 1000 := Nat.lt_of_le_of_lt (mxG_le (B := 999) (fun v _ => by have := hf v; omega)) (by omega)
  have h2 := hf u
  unfold morI
  simp only [mxG]
  by_cases z : mxG f u ≤ f u
  · rw [if_pos ((nI_leI (by omega) (by omega)).mpr z)]
    split <;> (first | rfl | (congr 1; omega))
  · rw [if_neg (fun h => z ((nI_leI (by omega) (by omega)).mp h))]
    split <;> (first | rfl | (congr 1; omega))
set_option maxHeartbeats 1000000 in
theorem m_look (hl : l.stackTraces = false) (hd : 12 ≤ d) (hs : zSt g) {S : sT} (hI : rI I S) (hok : okS S) {k : Nat} (hk : k ≤ 1) : zEi l Xi mX13_look d [.ref 74, .int (nI k)] I g (fun v J => v = lkV S k ∧ J 74 0 = nI 0 ∧ rQ I J) := by
  refine zC_of hl rfl rfl rfl (Nat.le_of_ble_eq_true rfl) (zav_r (zSt_ob hs 74 13 rfl).1 (zav_i zav_0)) ?_
  have hI0 := rI_rQ hI (rQ_thr (x := nI 0))
  have hB0 := hI0.2.2.1
  have hR0 := hI0.2.2.2.1
  have hb := hB0.1
  have hN6 := hb.2.2.2.2.1
  have hC8 := hb.2.1
  have hR8 := hb.2.2.2.1
  have ha := zSt_ar hs 533 519 rfl
  obtain ⟨P, hP⟩ : ∃ P : zR → zH → Prop, P = (fun r' h' => ∃ x I', r' = .inl (some (.int x)) ∧ h' = (I', g) ∧ x = lkV S k ∧ I' 74 0 = nI 0 ∧ rQ I I') := ⟨_, rfl⟩
  rw [← hP]
  refine zJ_aload_n dX13_look_0 rfl ?_
  refine zJ_iconst (v := nI 0) dX13_look_1 rfl ?_
  refine zP_puti lf_X13_107 (zSt_ob hs 74 13 rfl) rfl dX13_look_2 ?_
  refine zJ_aload_n dX13_look_5 rfl ?_
  refine zJ_iload_n dX13_look_6 rfl ?_
  refine zJ_iconst (v := nI 0) dX13_look_7 rfl ?_
  refine zJ_iconst (v := nI 1) dX13_look_8 rfl ?_
  refine zP_callSi [_, _, _] _ ls_X13_141 (k_in (d := d - 1) hl (by omega)) rfl (by omega) (Nat.le_of_ble_eq_true rfl) rfl dX13_look_9 ?_
  rw [show decide (¬ (nI k) < (nI 0) ∧ (nI k) ≤ (nI 1)) = true from in_ok (by omega) (by omega) (by omega)]
  refine zJ_if_ne 19 dX13_look_12 (by decide) (fun _ => ?_) (fun c12 => absurd c12 (by decide))
  refine zJ_iconst (v := nI 0) dX13_look_19 rfl ?_
  refine zJ_iconst (v := nI 1) dX13_look_20 rfl ?_
  refine zJ_iconst (v := nI 1) dX13_look_21 rfl ?_
  refine zP_callVi [_, _, _] _ lv_X13_186 (m_badF (d := d - 1) hl (by omega) hs thr_at) (zSt_ob hs 74 13 rfl) rfl (by omega) (Nat.le_of_ble_eq_true rfl) rfl dX13_look_22 ?_
  refine zJ_if_eq 30 dX13_look_25 (by decide) (fun _ => ?_) (fun c25 => absurd rfl c25)
  refine zJ_iconst (v := -1) dX13_look_30 rfl ?_
  refine zJ_istore_m 2 dX13_look_31 rfl (Nat.le_of_ble_eq_true rfl) (by decide) ?_
  refine zJ_iconst (v := -1) dX13_look_32 rfl ?_
  refine zJ_istore_m 3 dX13_look_33 rfl (Nat.le_of_ble_eq_true rfl) (by decide) ?_
  refine zJ_aload_n dX13_look_34 rfl ?_
  refine zP_ecallVv [] _ lv_X13_437 (m_countsUses (d := d - 1) hl (by omega) hs hI0 hok) (zSt_ob hs 74 13 rfl) rfl (by omega) (Nat.le_of_ble_eq_true rfl) rfl dX13_look_35 (fun J h => ?_)
  refine zJ_iconst (v := nI 0) dX13_look_38 rfl ?_
  refine zJ_istore dX13_look_39 (Nat.le_of_ble_eq_true rfl) (by decide) ?_
  obtain ⟨h1, h2, h3⟩ := h
  have hJ0 : J 74 0 = nI 0 := h2.trans thr_at
  have hJQ : rQ I J := rQ_trans rQ_thr h1
  have hIJ := rI_rQ hI hJQ
  have hBJ := hIJ.2.2.1
  have hLJ := hIJ.2.2.2.2.1
  have loop : ∀ m p, p + m = 64 → zJ l Xi mX13_look d 0 0 41 [some (.ref 74), some (.int (nI k)), some (.int (lk1 (lkN S p))), some (.int (lk2 (lkN S p))), some (.int (nI p)), none, none] [] (J, g) P := by
    intro m
    induction m with
    | zero =>
      intro p hp
      obtain rfl : p = 64 := by omega
      rw [hP]
      have hkk : k = 0 ∨ k = 1 := by omega
      rcases hkk with rfl | rfl
      · have e0 : lkV S 0 = lk3 (lkN S 64) := rfl
        rw [e0]
        cases hn : lkN S 64 with
        | none =>
          refine zJ_iload dX13_look_41 rfl ?_
          refine zJ_bipush (v := nI 64) dX13_look_43 rfl ?_
          refine zJ_icmp_ge 131 dX13_look_45 (by decide) (fun _ => ?_) (fun c45 => absurd (nI_le (by omega) (by omega)) c45)
          refine zJ_iload_n dX13_look_131 rfl ?_
          refine zJ_if_ne 142 dX13_look_132 (by decide) (fun c132 => absurd rfl c132) (fun _ => ?_)
          refine zJ_iload_n dX13_look_135 rfl ?_
          refine zP_callSi [_] _ ls_X13_443 (m_asTold0 (d := d - 1) hl (by omega)) rfl (by omega) (Nat.le_of_ble_eq_true rfl) rfl dX13_look_136 ?_
          refine zJ_goto 143 dX13_look_139 (by decide) ?_
          refine zJ_iret rfl dX13_look_143 ?_
          exact ⟨_, J, rfl, rfl, rfl, hJ0, hJQ⟩
        | some q =>
          have hq1 := lkN_ok hN6 hn
          refine zJ_iload dX13_look_41 rfl ?_
          refine zJ_bipush (v := nI 64) dX13_look_43 rfl ?_
          refine zJ_icmp_ge 131 dX13_look_45 (by decide) (fun _ => ?_) (fun c45 => absurd (nI_le (by omega) (by omega)) c45)
          refine zJ_iload_n dX13_look_131 rfl ?_
          refine zJ_if_ne 142 dX13_look_132 (by decide) (fun c132 => absurd rfl c132) (fun _ => ?_)
          refine zJ_iload_n dX13_look_135 rfl ?_
          refine zP_callSi [_] _ ls_X13_443 (m_asTold (p := q.1) (d := d - 1) hl (by omega) (by omega)) rfl (by omega) (Nat.le_of_ble_eq_true rfl) rfl dX13_look_136 ?_
          refine zJ_goto 143 dX13_look_139 (by decide) ?_
          refine zJ_iret rfl dX13_look_143 ?_
          exact ⟨_, J, rfl, rfl, rfl, hJ0, hJQ⟩
      · skip
        refine zJ_iload dX13_look_41 rfl ?_
        refine zJ_bipush (v := nI 64) dX13_look_43 rfl ?_
        refine zJ_icmp_ge 131 dX13_look_45 (by decide) (fun _ => ?_) (fun c45 => absurd (nI_le (by omega) (by omega)) c45)
        refine zJ_iload_n dX13_look_131 rfl ?_
        refine zJ_if_ne 142 dX13_look_132 (by decide) (fun _ => ?_) (fun c132 => absurd c132 (by decide))
        refine zJ_iload_n dX13_look_142 rfl ?_
        refine zJ_iret rfl dX13_look_143 ?_
        exact ⟨_, J, rfl, rfl, rfl, hJ0, hJQ⟩
    | succ m ih =>
      intro p hp
      have hbg := big_le (S := S) (p := p) hN6
      have IH := ih (p + 1) (by omega)
      have ht : ∀ v, (insM S.2.1 p && !(bkA S.2.2.2.1 p)) = v → (lkN S (p + 1) = if v then (match lkN S p with
          | none => some (p, bigM S.2.1 S.2.2.1 (okF S) p)
          | some q => if bigM S.2.1 S.2.2.1 (okF S) p < q.2 then some (p, bigM S.2.1 S.2.2.1 (okF S) p) else some q) else lkN S p) := fun v hv => by rw [← hv]; rfl
      have hsm : ∀ v, snN S.2.1 S.2.2.1 (okF S) (2 * bN S.2.1) p v < 1000 := fun v => Nat.lt_of_le_of_lt cB_le (by omega)
      have hbe : bigM S.2.1 S.2.2.1 (okF S) p = mxG (snN S.2.1 S.2.2.1 (okF S) (2 * bN S.2.1) p) 7 := rfl
      have inner : (insM S.2.1 p && !(bkA S.2.2.2.1 p)) = true → ∀ c u, u + c = 7 → zJ l Xi mX13_look d 0 0 75 [some (.ref 74), some (.int (nI k)), some (.int (lk1 (lkN S p))), some (.int (lk2 (lkN S p))), some (.int (nI p)), some (.int (nI (mxG (snN S.2.1 S.2.2.1 (okF S) (2 * bN S.2.1) p) u))), some (.int (nI u))] [] (J, g) P := by
        intro hin c
        rw [ht true hin, if_pos rfl] at IH
        induction c with
        | zero =>
          intro u hu
          obtain rfl : u = 7 := by omega
          rw [← hbe]
          cases hn : lkN S p with
          | none =>
            rw [hn] at IH
            refine zJ_iload dX13_look_75 rfl ?_
            refine zJ_bipush (v := nI 6) dX13_look_77 rfl ?_
            refine zJ_icmp_gt 105 dX13_look_79 (by decide) (fun _ => ?_) (fun c79 => absurd (nI_lt (by omega) (by omega)) c79)
            refine zJ_iload_n dX13_look_105 rfl ?_
            refine zJ_iconst (v := -1) dX13_look_106 rfl ?_
            refine zJ_icmp_eq 119 dX13_look_107 (by decide) (fun _ => ?_) (fun c107 => absurd rfl c107)
            refine zJ_iload dX13_look_119 rfl ?_
            refine zJ_istore_m 2 dX13_look_121 rfl (Nat.le_of_ble_eq_true rfl) (by decide) ?_
            refine zJ_iload dX13_look_122 rfl ?_
            refine zJ_istore_m 3 dX13_look_124 rfl (Nat.le_of_ble_eq_true rfl) (by decide) ?_
            refine zJ_iinc1 dX13_look_125 rfl (by decide) ?_
            refine zJ_goto 41 dX13_look_128 (by decide) ?_
            exact zJ_back (zle_r (zle_r (zle_r (zle_r (zle_r (zle_n (zle_n zle_0))))))) rfl IH
          | some q =>
            have hq1 := lkN_ok hN6 hn
            rw [hn] at IH
            simp only at IH
            refine zJ_iload dX13_look_75 rfl ?_
            refine zJ_bipush (v := nI 6) dX13_look_77 rfl ?_
            refine zJ_icmp_gt 105 dX13_look_79 (by decide) (fun _ => ?_) (fun c79 => absurd (nI_lt (by omega) (by omega)) c79)
            refine zJ_iload_n dX13_look_105 rfl ?_
            refine zJ_iconst (v := -1) dX13_look_106 rfl ?_
            refine zJ_icmp_eq 119 dX13_look_107 (by decide) (fun c107 => absurd c107 (show ¬ nI q.1 = -1 from nI_ne1 (by omega))) (fun _ => ?_)
            refine zJ_iload dX13_look_110 rfl ?_
            refine zJ_iload_n dX13_look_112 rfl ?_
            refine zJ_icmp_lt 119 dX13_look_113 (by decide) (fun c113 => ?_) (fun c113 => ?_)
            · skip
              refine zJ_iload dX13_look_119 rfl ?_
              refine zJ_istore_m 2 dX13_look_121 rfl (Nat.le_of_ble_eq_true rfl) (by decide) ?_
              refine zJ_iload dX13_look_122 rfl ?_
              refine zJ_istore_m 3 dX13_look_124 rfl (Nat.le_of_ble_eq_true rfl) (by decide) ?_
              refine zJ_iinc1 dX13_look_125 rfl (by decide) ?_
              refine zJ_goto 41 dX13_look_128 (by decide) ?_
              have e : bigM S.2.1 S.2.2.1 (okF S) p < q.2 := Nat.lt_of_not_le (fun z => absurd c113 (nI_nlt z (by omega)))
              rw [if_pos e] at IH
              exact zJ_back (zle_r (zle_r (zle_r (zle_r (zle_r (zle_n (zle_n zle_0))))))) rfl IH
            · skip
              refine zJ_goto 125 dX13_look_116 (by decide) ?_
              refine zJ_iinc1 dX13_look_125 rfl (by decide) ?_
              refine zJ_goto 41 dX13_look_128 (by decide) ?_
              have e : ¬ bigM S.2.1 S.2.2.1 (okF S) p < q.2 := fun z => c113 (nI_lt z (by omega))
              rw [if_neg e] at IH
              exact zJ_back (zle_r (zle_r (zle_r (zle_r (zle_r (zle_n (zle_n zle_0))))))) rfl IH
        | succ c ih2 =>
          intro u hu
          have hv := h3 p u (by omega) (by omega)
          refine zJ_iload dX13_look_75 rfl ?_
          refine zJ_bipush (v := nI 6) dX13_look_77 rfl ?_
          refine zJ_icmp_gt 105 dX13_look_79 (by decide) (fun c79 => absurd c79 (nI_nlt (by omega) (by omega))) (fun _ => ?_)
          refine zJ_iload dX13_look_82 rfl ?_
          refine zJ_aload_n dX13_look_84 rfl ?_
          refine zP_getr lf_X13_98 (zSt_ob hs 74 13 rfl) rfl (zSt_rf hs 74 46 577 rfl) dX13_look_85 ?_
          refine zJ_iload dX13_look_88 rfl ?_
          refine zP_rowK (k := p) (zSt_g577 hs) (by omega) (by decide) dX13_look_90 ?_
          refine zJ_iload dX13_look_91 rfl ?_
          refine zP_iald (zGr_ar (zSt_g577 hs) (i := p) (by omega)) (by first | assumption | with_reducible exact vp_in_nI (by omega) (by omega) | (simp (disch := omega) only [nI_add, pk_mul, pk_sub, pk_div, pk_rem, nI_clamp]; with_reducible exact vp_in_nI (by omega) (by omega))) dX13_look_93 ?_
          rw [nI_clamp (by omega), hv]
          refine zP_callSi [_, _] _ ls_X13_262 (k_more (d := d - 1) hl (by omega)) rfl (by omega) (Nat.le_of_ble_eq_true rfl) rfl dX13_look_94 ?_
          rw [mxG_succ hsm]
          refine zJ_istore dX13_look_97 (Nat.le_of_ble_eq_true rfl) (by decide) ?_
          refine zJ_iinc1 dX13_look_99 rfl (by decide) ?_
          refine zJ_goto 75 dX13_look_102 (by decide) ?_
          exact zJ_back (zle_r (zle_r (zle_r (zle_r (zle_r (zle_r (zle_r zle_0))))))) rfl (ih2 (u + 1) (by omega))
      refine zJ_iload dX13_look_41 rfl ?_
      refine zJ_bipush (v := nI 64) dX13_look_43 rfl ?_
      refine zJ_icmp_ge 131 dX13_look_45 (by decide) (fun c45 => absurd c45 (nI_ge (by omega) (by omega))) (fun _ => ?_)
      refine zJ_aload_n dX13_look_48 rfl ?_
      refine zJ_iload dX13_look_49 rfl ?_
      refine zP_callVi [_] _ lv_X13_199 (k_isHere (d := d - 1) hl (by omega) hs hBJ (by omega)) (zSt_ob hs 74 13 rfl) rfl (by omega) (Nat.le_of_ble_eq_true rfl) rfl dX13_look_51 ?_
      refine zJ_if_eq 125 dX13_look_54 (by decide) (fun c54 => ?_) (fun c54 => ?_)
      · replace c54 := zb0.mp c54
        refine zJ_iinc1 dX13_look_125 rfl (by decide) ?_
        refine zJ_goto 41 dX13_look_128 (by decide) ?_
        rw [ht false (by have c : insM S.2.1 p = false := c54; rw [c]; rfl)] at IH
        exact zJ_back (zle_r (zle_r (zle_r (zle_r (zle_r (zle_n (zle_n zle_0))))))) rfl IH
      · replace c54 := zb1.mp c54
        refine zJ_aload_n dX13_look_57 rfl ?_
        refine zJ_iload dX13_look_58 rfl ?_
        refine zP_callVi [_] _ lv_X13_440 (m_isTold (d := d - 1) hl (by omega) hs hLJ (by omega)) (zSt_ob hs 74 13 rfl) rfl (by omega) (Nat.le_of_ble_eq_true rfl) rfl dX13_look_60 ?_
        refine zJ_if_eq 69 dX13_look_63 (by decide) (fun c63 => ?_) (fun c63 => ?_)
        · replace c63 := zb0.mp c63
          refine zJ_iconst (v := nI 0) dX13_look_69 rfl ?_
          refine zJ_istore dX13_look_70 (Nat.le_of_ble_eq_true rfl) (by decide) ?_
          refine zJ_iconst (v := nI 0) dX13_look_72 rfl ?_
          refine zJ_istore dX13_look_73 (Nat.le_of_ble_eq_true rfl) (by decide) ?_
          exact zJ_back (zle_r (zle_r (zle_r (zle_r (zle_r (zle_r (zle_r zle_0))))))) rfl (inner (by have c : insM S.2.1 p = true := c54; have c' : bkA S.2.2.2.1 p = false := c63; rw [c, c']; rfl) 7 0 (by omega))
        · replace c63 := zb1.mp c63
          refine zJ_goto 125 dX13_look_66 (by decide) ?_
          refine zJ_iinc1 dX13_look_125 rfl (by decide) ?_
          refine zJ_goto 41 dX13_look_128 (by decide) ?_
          rw [ht false (by have c' : bkA S.2.2.2.1 p = true := c63; rw [c']; simp)] at IH
          exact zJ_back (zle_r (zle_r (zle_r (zle_r (zle_r (zle_n (zle_n zle_0))))))) rfl IH
  exact zJ_back (zle_r (zle_r (zle_i rfl (zle_i rfl (zle_r (zle_n (zle_n zle_0))))))) rfl (loop 64 0 (by omega))
end ZRefAA
