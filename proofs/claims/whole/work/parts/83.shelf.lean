/-! ===== Shelf: images ===== -/
section ZShelf2
variable {l : Launch} {Xi : zXi} {d : Nat} {I : zI} {g : zG}
theorem gs_ne {a k b q : Nat} (h : q ≠ a) : (gset g a k b).2.2.1 q = g.2.2.1 q := va_ne h
theorem gs_at {a k b : Nat} : (gset g a k b).2.2.1 a k = some b := by show va_up g.2.2.1 a _ a k = _; rw [va_eq, va_eq]
theorem gs_a {a k b j : Nat} (h : j ≠ k) : (gset g a k b).2.2.1 a j = g.2.2.1 a j := by show va_up g.2.2.1 a _ a j = _; rw [va_eq, va_ne h]
theorem gE_trans {g1 g2 : zG} (h : gE g g1) (h2 : g2.1 = g1.1 ∧ g2.2.1 = g1.2.1 ∧ (∀ k, k ≠ 58 → k ≠ 59 → k ≠ 60 → g2.2.2.1 k = g1.2.2.1 k) ∧ g2.2.2.2 = g1.2.2.2) : gE g g2 := by
  obtain ⟨e1, e2, e3, e4⟩ := h2
  exact ⟨by rw [e1]; exact h.1, by rw [e1]; exact h.2.1, fun k hk => by rw [e2]; exact h.2.2.1 k hk, fun k hk n1 n2 n3 => by rw [e3 k n1 n2 n3]; exact h.2.2.2.1 k hk n1 n2 n3, fun k hk => by rw [e4]; exact h.2.2.2.2 k hk⟩
set_option maxHeartbeats 1000000 in
theorem k_keepImage (hl : l.stackTraces = false) (hd : 5 ≤ d) (hs : zSt g) {w m : Nat} {W Pr : Nat → rwT} {Pw : Nat → Nat} {Pa : Nat → Nat → rwT} {R : rwT} (hS : shI I g w m W Pr Pw Pa) (hm : m < 3) (hR : zRow I 62 R) (hB : g.1 + 10 < zB) (h643 : 643 ≤ g.1) : zC l Xi mX7_keepImage d 6 588 [.ref 57, .ref 62] (I, g) (fun r h' => r = .inl none ∧ ∃ J g', h' = (J, g') ∧ gE g g' ∧ (∀ a, a ≤ 642 → a ≠ 57 → a ≠ 61 → J a = I a) ∧ shI J g' w (m + 1) W (un Pr m R) (un Pw m w) (un Pa m W)) := by
  refine zC_of hl rfl rfl rfl (Nat.le_of_ble_eq_true rfl) (zav_r (zSt_ob hs 57 7 rfl).1 (zav_r (zSt_ob hs 62 8 rfl).1 zav_0)) ?_
  obtain ⟨⟨s1, s2, s3, s4⟩, ⟨lab, hG⟩, hC⟩ := hS
  have loop : ∀ k i (J : zI) (g1 : zG) (a : Nat) (lab : Nat → Nat), i + k = w → zSt g1 → gE g g1 → (∀ q, q ≤ 642 → J q = I q) → shG g1 lab → shC J g1 w m W Pr Pw Pa → g1.2.2.1 59 m = some a → zRow J a R → (∀ q, q < i → g1.2.2.1 60 (m * 16 + q) = g1.2.2.1 58 q) → zJ l Xi mX7_keepImage d 0 0 52 [some (.ref 57), some (.ref 62), some (.int (nI i))] [] (J, g1) (fun r h' => r = .inl none ∧ ∃ J g', h' = (J, g') ∧ gE g g' ∧ (∀ a, a ≤ 642 → a ≠ 57 → a ≠ 61 → J a = I a) ∧ shI J g' w (m + 1) W (un Pr m R) (un Pw m w) (un Pa m W)) := by
    intro k
    induction k with
    | zero =>
      intro i J g1 a lab hi hs hE hJ hG hC ha hr hq
      obtain rfl : i = w := by omega
      refine zJ_iload_n dX7_keepImage_52 rfl ?_
      refine zJ_aload_n dX7_keepImage_53 rfl ?_
      refine zP_geti lf_X7_27 (zSt_ob hs 57 7 rfl) rfl dX7_keepImage_54 ?_
      rw [hJ 57 (by decide), s1]
      refine zJ_icmp_ge 86 dX7_keepImage_57 (by decide) (fun _ => ?_) (fun c57 => absurd (nI_le (by omega) (by omega)) c57)
      refine zJ_aload_n dX7_keepImage_86 rfl ?_
      refine zP_getr lf_X7_23 (zSt_ob hs 57 7 rfl) rfl (zSt_rf hs 57 5 61 rfl) dX7_keepImage_87 ?_
      refine zJ_aload_n dX7_keepImage_90 rfl ?_
      refine zP_geti lf_X7_31 (zSt_ob hs 57 7 rfl) rfl dX7_keepImage_91 ?_
      rw [hJ 57 (by decide), s3]
      refine zJ_aload_n dX7_keepImage_94 rfl ?_
      refine zP_geti lf_X7_27 (zSt_ob hs 57 7 rfl) rfl dX7_keepImage_95 ?_
      rw [hJ 57 (by decide), s1]
      refine zP_iast (zSt_ar hs 61 3 rfl) (by first | assumption | with_reducible exact vp_in_nI (by omega) (by omega) | (simp (disch := omega) only [nI_add, pk_mul, pk_sub, pk_div, pk_rem, nI_clamp]; with_reducible exact vp_in_nI (by omega) (by omega))) dX7_keepImage_98 ?_
      refine zJ_aload_n dX7_keepImage_99 rfl ?_
      refine zJ_dup dX7_keepImage_100 rfl ?_
      refine zP_geti lf_X7_31 (zSt_ob hs 57 7 rfl) rfl dX7_keepImage_101 ?_
      rw [zup_row (by decide), hJ 57 (by decide), s3]
      refine zJ_iconst (v := nI 1) dX7_keepImage_104 rfl ?_
      refine zJ_iadd dX7_keepImage_105 ?_
      rw [nI_add]
      refine zP_puti lf_X7_31 (zSt_ob hs 57 7 rfl) rfl dX7_keepImage_106 ?_
      refine zJ_vret rfl dX7_keepImage_109 ?_
      rw [nI_clamp (by omega)]
      have hz : ∀ q, q ≠ 57 → q ≠ 61 → zup (zup J 61 m (nI i)) 57 1 (nI (m + 1)) q = J q := fun q h1 h2 => by rw [zup_row h1, zup_row h2]
      have h61 : ∀ k, k < m → zup (zup J 61 m (nI i)) 57 1 (nI (m + 1)) 61 k = J 61 k := fun k hk => by rw [zup_row (by decide), zup_same, upd_ne (by omega)]
      have hC1 : shC (zup (zup J 61 m (nI i)) 57 1 (nI (m + 1))) g1 i m W Pr Pw Pa := shC_row hG hC (by omega) (by omega) h61 (fun c h1 h2 h3 q h4 h5 => hz q (by omega) (by omega))
      refine ⟨rfl, _, g1, rfl, hE, fun q h1 h2 h3 => by rw [hz q h2 h3]; exact hJ q h1, ⟨by rw [zup_same, upd_ne (by decide), zup_row (by decide), hJ 57 (by decide)]; exact s1, s2, by rw [zup_same, upd_at], by omega⟩, ⟨lab, hG⟩, hC1.1, fun k hk => ?_⟩
      by_cases z : k = m
      · subst z
        rw [un_at, un_at, un_at]
        obtain ⟨b1, b2, -⟩ := hG.2.1 k a (by omega) ha
        refine ⟨⟨a, ha, zRow_of hr (fun q h1 h2 => hz q (by omega) (by omega))⟩, by rw [zup_row (by decide), zup_same, upd_at], s2, fun q hq2 => ?_⟩
        obtain ⟨c, h1, h2⟩ := hC1.1 q hq2
        exact ⟨c, by rw [hq q hq2]; exact h1, h2⟩
      · rw [un_ne z, un_ne z, un_ne z]
        exact hC1.2 k (by omega)
    | succ k ih =>
      intro i J g1 a lab hi hs hE hJ hG hC ha hr hq
      obtain ⟨c, hc, hcr⟩ := hC.1 i (by omega)
      obtain ⟨c1, c2, c3⟩ := hG.1 i c (by omega) hc
      refine zJ_iload_n dX7_keepImage_52 rfl ?_
      refine zJ_aload_n dX7_keepImage_53 rfl ?_
      refine zP_geti lf_X7_27 (zSt_ob hs 57 7 rfl) rfl dX7_keepImage_54 ?_
      rw [hJ 57 (by decide), s1]
      refine zJ_icmp_ge 86 dX7_keepImage_57 (by decide) (fun c57 => absurd c57 (nI_ge (by omega) (by omega))) (fun _ => ?_)
      refine zJ_aload_n dX7_keepImage_60 rfl ?_
      refine zP_getr lf_X7_20 (zSt_ob hs 57 7 rfl) rfl (zSt_rf hs 57 4 60 rfl) dX7_keepImage_61 ?_
      refine zJ_aload_n dX7_keepImage_64 rfl ?_
      refine zP_geti lf_X7_31 (zSt_ob hs 57 7 rfl) rfl dX7_keepImage_65 ?_
      rw [hJ 57 (by decide), s3]
      refine zJ_bipush (v := nI 16) dX7_keepImage_68 rfl ?_
      refine zJ_imul dX7_keepImage_70 ?_
      refine zJ_iload_n dX7_keepImage_71 rfl ?_
      refine zJ_iadd dX7_keepImage_72 ?_
      rw [pk_mul, nI_add]
      refine zJ_aload_n dX7_keepImage_73 rfl ?_
      refine zP_getr lf_X7_11 (zSt_ob hs 57 7 rfl) rfl (zSt_rf hs 57 2 58 rfl) dX7_keepImage_74 ?_
      refine zJ_iload_n dX7_keepImage_77 rfl ?_
      refine zP_aald (zSt_q hs 58 16 rfl).1 (zSt_q hs 58 16 rfl).2 (by first | assumption | with_reducible exact vp_in_nI (by omega) (by omega) | (simp (disch := omega) only [nI_add, pk_mul, pk_sub, pk_div, pk_rem, nI_clamp]; with_reducible exact vp_in_nI (by omega) (by omega))) (by rw [nI_clamp (by omega)]; exact hc) dX7_keepImage_78 ?_
      refine zP_aast (zSt_q hs 60 48 rfl).1 (zSt_q hs 60 48 rfl).2 c2.1 (by first | assumption | with_reducible exact vp_in_nI (by omega) (by omega) | (simp (disch := omega) only [nI_add, pk_mul, pk_sub, pk_div, pk_rem, nI_clamp]; with_reducible exact vp_in_nI (by omega) (by omega))) dX7_keepImage_79 ?_
      refine zJ_iinc1 dX7_keepImage_80 rfl (by decide) ?_
      refine zJ_goto 52 dX7_keepImage_83 (by decide) ?_
      rw [nI_clamp (by omega)]
      refine ih (i + 1) J (gset g1 60 (m * 16 + i) c) a lab (by omega) (zSt_set hs (Or.inr (Or.inr rfl))) (gE_set hE (Or.inr (Or.inr rfl))) hJ (shG_set60 hG (by omega) ⟨c1, c2, c3⟩) ⟨fun q hq => ?_, fun k hk => ?_⟩ (by rw [gs_ne (by decide)]; exact ha) hr (fun q hq2 => ?_)
      · rw [gs_ne (by decide)]; exact hC.1 q hq
      · rw [gs_ne (by decide)]
        obtain ⟨h1, h3, h4, h5⟩ := hC.2 k hk
        exact ⟨h1, h3, h4, fun q hq => by rw [gs_a (by omega)]; exact h5 q hq⟩
      · rw [gs_ne (a := 60) (q := 58) (by decide)]
        by_cases z : q = i
        · rw [z, gs_at, hc]
        · rw [gs_a (by omega)]; exact hq q (by omega)
  have h37 : ∀ (J : zI) (g1 : zG) (a : Nat) (lab : Nat → Nat), zSt g1 → gE g g1 → (∀ q, q ≤ 642 → J q = I q) → shG g1 lab → shC J g1 w m W Pr Pw Pa → g1.2.2.1 59 m = some a → zJ l Xi mX7_keepImage d 0 0 37 [some (.ref 57), some (.ref 62), none] [] (J, g1) (fun r h' => r = .inl none ∧ ∃ J g', h' = (J, g') ∧ gE g g' ∧ (∀ a, a ≤ 642 → a ≠ 57 → a ≠ 61 → J a = I a) ∧ shI J g' w (m + 1) W (un Pr m R) (un Pw m w) (un Pa m W)) := by
    intro J g1 a lab hs hE hJ hG hC ha
    obtain ⟨a1, a2, a3⟩ := hG.2.1 m a hm ha
    have hsep : ∀ c, 642 < c → zK g1 c 8 zLt_State → (∃ i, i < w ∧ g1.2.2.1 58 i = some c) ∨ (∃ k, k < m ∧ g1.2.2.1 59 k = some c) ∨ (∃ k i, k < m ∧ i < Pw k ∧ g1.2.2.1 60 (k * 16 + i) = some c) → c + 5 < a ∨ a + 5 < c := fun c h1 h2 h3 => by
      refine zK_sep h2 a2 (fun z => ?_)
      rcases h3 with ⟨i, hi, h4⟩ | ⟨k, hk, h4⟩ | ⟨k, i, hk, hi, h4⟩
      · have := (hG.1 i c (by omega) h4).2.2; rw [z, a3] at this; omega
      · have := (hG.2.1 k c (by omega) h4).2.2; rw [z, a3] at this; omega
      · have h5 := (hC.2 k hk).2.2.1
        have := (hG.2.2 k i c (by omega) (by omega) h4).2.2; rw [z, a3] at this; omega
    refine zJ_aload_n dX7_keepImage_37 rfl ?_
    refine zP_getr lf_X7_17 (zSt_ob hs 57 7 rfl) rfl (zSt_rf hs 57 3 59 rfl) dX7_keepImage_38 ?_
    refine zJ_aload_n dX7_keepImage_41 rfl ?_
    refine zP_geti lf_X7_31 (zSt_ob hs 57 7 rfl) rfl dX7_keepImage_42 ?_
    rw [hJ 57 (by decide), s3]
    refine zP_aald (zSt_q hs 59 3 rfl).1 (zSt_q hs 59 3 rfl).2 (by first | assumption | with_reducible exact vp_in_nI (by omega) (by omega) | (simp (disch := omega) only [nI_add, pk_mul, pk_sub, pk_div, pk_rem, nI_clamp]; with_reducible exact vp_in_nI (by omega) (by omega))) (by rw [nI_clamp (by omega)]; exact ha) dX7_keepImage_45 ?_
    refine zJ_aload_n dX7_keepImage_46 rfl ?_
    refine zP_callVv [_] _ lv_X7_35 (k_X8_copyFrom (d := d - 1) hl (by omega) a2 (zSt_state hs)) a2.1 rfl (by omega) (Nat.le_of_ble_eq_true rfl) rfl dX7_keepImage_47 ?_
    refine zJ_iconst (v := nI 0) dX7_keepImage_50 rfl ?_
    refine zJ_istore_m 2 dX7_keepImage_51 rfl (Nat.le_of_ble_eq_true rfl) (by decide) ?_
    refine loop w 0 (f_copyS J a 62) g1 a lab (by omega) hs hE (fun q hq => by rw [copyS_ne (by omega)]; exact hJ q hq) hG (shC_row hG hC s2 s4 (fun k hk => by rw [copyS_ne (by omega)]) (fun c h1 h2 h3 q h4 h5 => by have := hsep c h1 h2 h3; rw [copyS_ne (by omega)])) ha (copyS_row (by omega) (zRow_of hR (fun q h4 h5 => hJ q (by omega)))) (fun q hq => absurd hq (Nat.not_lt_zero _))
  cases ha : g.2.2.1 59 m with
  | none =>
    refine zJ_aload_n dX7_keepImage_0 rfl ?_
    refine zP_geti lf_X7_31 (zSt_ob hs 57 7 rfl) rfl dX7_keepImage_1 ?_
    refine zJ_iconst (v := nI 3) dX7_keepImage_4 rfl ?_
    rw [s3]
    refine zJ_icmp_lt 9 dX7_keepImage_5 (by decide) (fun _ => ?_) (fun c5 => absurd (nI_lt (by omega) (by omega)) c5)
    refine zJ_aload_n dX7_keepImage_9 rfl ?_
    refine zP_getr lf_X7_17 (zSt_ob hs 57 7 rfl) rfl (zSt_rf hs 57 3 59 rfl) dX7_keepImage_10 ?_
    refine zJ_aload_n dX7_keepImage_13 rfl ?_
    refine zP_geti lf_X7_31 (zSt_ob hs 57 7 rfl) rfl dX7_keepImage_14 ?_
    rw [s3]
    refine zP_aaldN (zSt_q hs 59 3 rfl).1 (zSt_q hs 59 3 rfl).2 (by first | assumption | with_reducible exact vp_in_nI (by omega) (by omega) | (simp (disch := omega) only [nI_add, pk_mul, pk_sub, pk_div, pk_rem, nI_clamp]; with_reducible exact vp_in_nI (by omega) (by omega))) (by rw [nI_clamp (by omega)]; exact ha) dX7_keepImage_17 ?_
    refine zJ_ifnonnullN dX7_keepImage_18 ?_
    refine zJ_aload_n dX7_keepImage_21 rfl ?_
    refine zP_getr lf_X7_17 (zSt_ob hs 57 7 rfl) rfl (zSt_rf hs 57 3 59 rfl) dX7_keepImage_22 ?_
    refine zJ_aload_n dX7_keepImage_25 rfl ?_
    refine zP_geti lf_X7_31 (zSt_ob hs 57 7 rfl) rfl dX7_keepImage_26 ?_
    rw [s3]
    refine zP_newS rfl hl (by omega) (Nat.le_of_ble_eq_true rfl) hB dX7_keepImage_29 dX7_keepImage_32 dX7_keepImage_33 (fun J g1 hn hk => ?_)
    have hs0 := hs
    have hs := zSt_nw hs hn (by omega)
    refine zP_aast (zSt_q hs 59 3 rfl).1 (zSt_q hs 59 3 rfl).2 hk.1 (by first | assumption | with_reducible exact vp_in_nI (by omega) (by omega) | (simp (disch := omega) only [nI_add, pk_mul, pk_sub, pk_div, pk_rem, nI_clamp]; with_reducible exact vp_in_nI (by omega) (by omega))) dX7_keepImage_36 ?_
    rw [nI_clamp (by omega)]
    have hG1 := shG_un (n := g.1) (x := 100 + m) hG (Nat.le_refl _)
    have hG2 := shG_nw hG1 hs0 hn
    have hG3 := shG_set59 (i := m) (b := g.1) hG2 ⟨by omega, hk, un_at⟩
    have hC2 := shC_nw hs0 hG hC s2 s4 hn
    refine h37 J (gset g1 59 m g.1) g.1 _ (zSt_set hs (Or.inr (Or.inl rfl))) (gE_set (gE_nw hn) (Or.inr (Or.inl rfl))) (fun q hq => (hn.2 q (by omega)).1) hG3 ⟨fun i hi => ?_, fun k hk => ?_⟩ gs_at
    · rw [gs_ne (by decide)]; exact hC2.1 i hi
    · obtain ⟨h1, h3, h4, h5⟩ := hC2.2 k hk
      exact ⟨by rw [gs_a (by omega)]; exact h1, h3, h4, fun i hi => by rw [gs_ne (by decide)]; exact h5 i hi⟩
  | some a =>
    obtain ⟨a1, a2, a3⟩ := hG.2.1 m a hm ha
    refine zJ_wid (kc := 0) (ks := 0) (by decide) (by decide) ?_
    refine zJ_aload_n dX7_keepImage_0 rfl ?_
    refine zP_geti lf_X7_31 (zSt_ob hs 57 7 rfl) rfl dX7_keepImage_1 ?_
    refine zJ_iconst (v := nI 3) dX7_keepImage_4 rfl ?_
    rw [s3]
    refine zJ_icmp_lt 9 dX7_keepImage_5 (by decide) (fun _ => ?_) (fun c5 => absurd (nI_lt (by omega) (by omega)) c5)
    refine zJ_aload_n dX7_keepImage_9 rfl ?_
    refine zP_getr lf_X7_17 (zSt_ob hs 57 7 rfl) rfl (zSt_rf hs 57 3 59 rfl) dX7_keepImage_10 ?_
    refine zJ_aload_n dX7_keepImage_13 rfl ?_
    refine zP_geti lf_X7_31 (zSt_ob hs 57 7 rfl) rfl dX7_keepImage_14 ?_
    rw [s3]
    refine zP_aald (zSt_q hs 59 3 rfl).1 (zSt_q hs 59 3 rfl).2 (by first | assumption | with_reducible exact vp_in_nI (by omega) (by omega) | (simp (disch := omega) only [nI_add, pk_mul, pk_sub, pk_div, pk_rem, nI_clamp]; with_reducible exact vp_in_nI (by omega) (by omega))) (by rw [nI_clamp (by omega)]; exact ha) dX7_keepImage_17 ?_
    refine zJ_ifnonnull 37 dX7_keepImage_18 (by decide) ?_
    exact h37 I g a lab hs gE_rfl (fun _ _ => rfl) hG hC ha
set_option maxHeartbeats 1000000 in
theorem k_takeImage (hl : l.stackTraces = false) (hd : 5 ≤ d) (hs : zSt g) {w m : Nat} {W Pr : Nat → rwT} {Pw : Nat → Nat} {Pa : Nat → Nat → rwT} (hS : shI I g w (m + 1) W Pr Pw Pa) : zC l Xi mX7_takeImage d 0 0 [.ref 57, .ref 62] (I, g) (fun r h' => r = .inl none ∧ ∃ J g', h' = (J, g') ∧ gE g g' ∧ (∀ a, a ≠ 57 → (a < 62 ∨ 67 < a) → J a = I a) ∧ zRow J 62 (Pr m) ∧ shI J g' (Pw m) m (Pa m) Pr Pw Pa) := by
  refine zC_of hl rfl rfl rfl (Nat.le_of_ble_eq_true rfl) (zav_r (zSt_ob hs 57 7 rfl).1 (zav_r (zSt_ob hs 62 8 rfl).1 zav_0)) ?_
  obtain ⟨⟨s1, s2, s3, s4⟩, ⟨lab, hG⟩, hC⟩ := hS
  obtain ⟨⟨a, ha, hr⟩, p1, p2, p3⟩ := hC.2 m (by omega)
  obtain ⟨a1, a2, a3⟩ := hG.2.1 m a (by omega) ha
  have loop : ∀ k i (J : zI) (g1 : zG), i + k = Pw m → zSt g1 → gE g g1 → (∀ q, q ≠ 57 → (q < 62 ∨ 67 < q) → J q = I q) → J 57 0 = nI (Pw m) → J 57 1 = nI m → zRow J 62 (Pr m) → shG g1 lab → g1.2.2.1 59 = g.2.2.1 59 → g1.2.2.1 60 = g.2.2.1 60 → (∀ q, q < i → g1.2.2.1 58 q = g.2.2.1 60 (m * 16 + q)) → zJ l Xi mX7_takeImage d 0 0 60 [some (.ref 57), some (.ref 62), some (.int (nI i))] [] (J, g1) (fun r h' => r = .inl none ∧ ∃ J g', h' = (J, g') ∧ gE g g' ∧ (∀ a, a ≠ 57 → (a < 62 ∨ 67 < a) → J a = I a) ∧ zRow J 62 (Pr m) ∧ shI J g' (Pw m) m (Pa m) Pr Pw Pa) := by
    intro k
    induction k with
    | zero =>
      intro i J g1 hi hs hE hJ h0 h1 hr2 hG1 e59 e60 hq
      obtain rfl : i = Pw m := by omega
      refine zJ_iload_n dX7_takeImage_60 rfl ?_
      refine zJ_aload_n dX7_takeImage_61 rfl ?_
      refine zP_geti lf_X7_27 (zSt_ob hs 57 7 rfl) rfl dX7_takeImage_62 ?_
      rw [h0]
      refine zJ_icmp_ge 94 dX7_takeImage_65 (by decide) (fun _ => ?_) (fun c65 => absurd (nI_le (by omega) (by omega)) c65)
      refine zJ_vret rfl dX7_takeImage_94 ?_
      have hz : ∀ c R, 642 < c → zRow I c R → zRow J c R := fun c R h1 h2 => zRow_of h2 (fun q h3 h4 => hJ q (by omega) (by omega))
      refine ⟨rfl, J, g1, rfl, hE, hJ, hr2, ⟨h0, p2, h1, by omega⟩, ⟨lab, hG1⟩, fun q hq2 => ?_, fun k hk => ?_⟩
      · obtain ⟨c, h3, h4⟩ := p3 q hq2
        exact ⟨c, by rw [hq q hq2]; exact h3, hz c _ (hG.2.2 m q c (by omega) (by omega) h3).1 h4⟩
      · obtain ⟨⟨c, h3, h4⟩, h5, h6, h7⟩ := hC.2 k (by omega)
        refine ⟨⟨c, by rw [e59]; exact h3, hz c _ (hG.2.1 k c (by omega) h3).1 h4⟩, by rw [hJ 61 (by decide) (by decide)]; exact h5, h6, fun q hq2 => ?_⟩
        obtain ⟨c, h8, h9⟩ := h7 q hq2
        exact ⟨c, by rw [e60]; exact h8, hz c _ (hG.2.2 k q c (by omega) (by omega) h8).1 h9⟩
    | succ k ih =>
      intro i J g1 hi hs hE hJ h0 h1 hr2 hG1 e59 e60 hq
      obtain ⟨c, hc, hcr⟩ := p3 i (by omega)
      have hc' : g1.2.2.1 60 (m * 16 + i) = some c := by rw [e60]; exact hc
      obtain ⟨c1, c2, c3⟩ := hG1.2.2 m i c (by omega) (by omega) hc'
      refine zJ_iload_n dX7_takeImage_60 rfl ?_
      refine zJ_aload_n dX7_takeImage_61 rfl ?_
      refine zP_geti lf_X7_27 (zSt_ob hs 57 7 rfl) rfl dX7_takeImage_62 ?_
      rw [h0]
      refine zJ_icmp_ge 94 dX7_takeImage_65 (by decide) (fun c65 => absurd c65 (nI_ge (by omega) (by omega))) (fun _ => ?_)
      refine zJ_aload_n dX7_takeImage_68 rfl ?_
      refine zP_getr lf_X7_11 (zSt_ob hs 57 7 rfl) rfl (zSt_rf hs 57 2 58 rfl) dX7_takeImage_69 ?_
      refine zJ_iload_n dX7_takeImage_72 rfl ?_
      refine zJ_aload_n dX7_takeImage_73 rfl ?_
      refine zP_getr lf_X7_20 (zSt_ob hs 57 7 rfl) rfl (zSt_rf hs 57 4 60 rfl) dX7_takeImage_74 ?_
      refine zJ_aload_n dX7_takeImage_77 rfl ?_
      refine zP_geti lf_X7_31 (zSt_ob hs 57 7 rfl) rfl dX7_takeImage_78 ?_
      rw [h1]
      refine zJ_bipush (v := nI 16) dX7_takeImage_81 rfl ?_
      refine zJ_imul dX7_takeImage_83 ?_
      refine zJ_iload_n dX7_takeImage_84 rfl ?_
      refine zJ_iadd dX7_takeImage_85 ?_
      rw [pk_mul, nI_add]
      refine zP_aald (zSt_q hs 60 48 rfl).1 (zSt_q hs 60 48 rfl).2 (by first | assumption | with_reducible exact vp_in_nI (by omega) (by omega) | (simp (disch := omega) only [nI_add, pk_mul, pk_sub, pk_div, pk_rem, nI_clamp]; with_reducible exact vp_in_nI (by omega) (by omega))) (by rw [nI_clamp (by omega)]; exact hc') dX7_takeImage_86 ?_
      refine zP_aast (zSt_q hs 58 16 rfl).1 (zSt_q hs 58 16 rfl).2 c2.1 (by first | assumption | with_reducible exact vp_in_nI (by omega) (by omega) | (simp (disch := omega) only [nI_add, pk_mul, pk_sub, pk_div, pk_rem, nI_clamp]; with_reducible exact vp_in_nI (by omega) (by omega))) dX7_takeImage_87 ?_
      refine zJ_iinc1 dX7_takeImage_88 rfl (by decide) ?_
      refine zJ_goto 60 dX7_takeImage_91 (by decide) ?_
      rw [nI_clamp (by omega)]
      refine ih (i + 1) J (gset g1 58 i c) (by omega) (zSt_set hs (Or.inl rfl)) (gE_set hE (Or.inl rfl)) hJ h0 h1 hr2 (shG_set58 hG1 ⟨c1, c2, c3⟩) (by rw [gs_ne (by decide)]; exact e59) (by rw [gs_ne (by decide)]; exact e60) (fun q hq2 => ?_)
      by_cases z : q = i
      · rw [z, gs_at, hc]
      · rw [gs_a z]; exact hq q (by omega)
  refine zJ_aload_n dX7_takeImage_0 rfl ?_
  refine zP_geti lf_X7_31 (zSt_ob hs 57 7 rfl) rfl dX7_takeImage_1 ?_
  rw [s3]
  refine zJ_if_eq 21 dX7_takeImage_4 (by decide) (fun c4 => absurd c4 (nI_ne0 (by omega) (by omega))) (fun _ => ?_)
  refine zJ_aload_n dX7_takeImage_7 rfl ?_
  refine zP_getr lf_X7_17 (zSt_ob hs 57 7 rfl) rfl (zSt_rf hs 57 3 59 rfl) dX7_takeImage_8 ?_
  refine zJ_aload_n dX7_takeImage_11 rfl ?_
  refine zP_geti lf_X7_31 (zSt_ob hs 57 7 rfl) rfl dX7_takeImage_12 ?_
  rw [s3]
  refine zJ_iconst (v := nI 1) dX7_takeImage_15 rfl ?_
  refine zJ_isub dX7_takeImage_16 ?_
  rw [pk_sub (by omega), Nat.add_sub_cancel]
  refine zP_aald (zSt_q hs 59 3 rfl).1 (zSt_q hs 59 3 rfl).2 (by first | assumption | with_reducible exact vp_in_nI (by omega) (by omega) | (simp (disch := omega) only [nI_add, pk_mul, pk_sub, pk_div, pk_rem, nI_clamp]; with_reducible exact vp_in_nI (by omega) (by omega))) (by rw [nI_clamp (by omega)]; exact ha) dX7_takeImage_17 ?_
  refine zJ_ifnonnull 22 dX7_takeImage_18 (by decide) ?_
  refine zJ_aload_n dX7_takeImage_22 rfl ?_
  refine zJ_dup dX7_takeImage_23 rfl ?_
  refine zP_geti lf_X7_31 (zSt_ob hs 57 7 rfl) rfl dX7_takeImage_24 ?_
  rw [s3]
  refine zJ_iconst (v := nI 1) dX7_takeImage_27 rfl ?_
  refine zJ_isub dX7_takeImage_28 ?_
  rw [pk_sub (by omega), Nat.add_sub_cancel]
  refine zP_puti lf_X7_31 (zSt_ob hs 57 7 rfl) rfl dX7_takeImage_29 ?_
  refine zJ_aload_n dX7_takeImage_32 rfl ?_
  refine zJ_aload_n dX7_takeImage_33 rfl ?_
  refine zP_getr lf_X7_17 (zSt_ob hs 57 7 rfl) rfl (zSt_rf hs 57 3 59 rfl) dX7_takeImage_34 ?_
  refine zJ_aload_n dX7_takeImage_37 rfl ?_
  refine zP_geti lf_X7_31 (zSt_ob hs 57 7 rfl) rfl dX7_takeImage_38 ?_
  rw [zup_same, upd_at]
  refine zP_aald (zSt_q hs 59 3 rfl).1 (zSt_q hs 59 3 rfl).2 (by first | assumption | with_reducible exact vp_in_nI (by omega) (by omega) | (simp (disch := omega) only [nI_add, pk_mul, pk_sub, pk_div, pk_rem, nI_clamp]; with_reducible exact vp_in_nI (by omega) (by omega))) (by rw [nI_clamp (by omega)]; exact ha) dX7_takeImage_41 ?_
  refine zP_callVv [_] _ lv_X7_35 (k_X8_copyFrom (d := d - 1) hl (by omega) (zSt_state hs) a2) (zSt_ob hs 62 8 rfl) rfl (by omega) (Nat.le_of_ble_eq_true rfl) rfl dX7_takeImage_42 ?_
  refine zJ_aload_n dX7_takeImage_45 rfl ?_
  refine zJ_aload_n dX7_takeImage_46 rfl ?_
  refine zP_getr lf_X7_23 (zSt_ob hs 57 7 rfl) rfl (zSt_rf hs 57 5 61 rfl) dX7_takeImage_47 ?_
  refine zJ_aload_n dX7_takeImage_50 rfl ?_
  refine zP_geti lf_X7_31 (zSt_ob hs 57 7 rfl) rfl dX7_takeImage_51 ?_
  rw [copyS_ne (by omega), zup_same, upd_at]
  refine zP_iald (zSt_ar hs 61 3 rfl) (by first | assumption | with_reducible exact vp_in_nI (by omega) (by omega) | (simp (disch := omega) only [nI_add, pk_mul, pk_sub, pk_div, pk_rem, nI_clamp]; with_reducible exact vp_in_nI (by omega) (by omega))) dX7_takeImage_54 ?_
  rw [nI_clamp (by omega), copyS_ne (by omega), zup_row (by decide), p1]
  refine zP_puti lf_X7_27 (zSt_ob hs 57 7 rfl) rfl dX7_takeImage_55 ?_
  refine zJ_iconst (v := nI 0) dX7_takeImage_58 rfl ?_
  refine zJ_istore_m 2 dX7_takeImage_59 rfl (Nat.le_of_ble_eq_true rfl) (by decide) ?_
  refine loop (Pw m) 0 _ g (by omega) hs gE_rfl (fun q h1 h2 => by rw [zup_row h1, copyS_ne (by omega), zup_row h1]) (by rw [zup_same, upd_at]) (by rw [zup_same, upd_ne (by decide), copyS_ne (by omega), zup_same, upd_at]) (zRow_zup (copyS_row (by omega) (zRow_zup hr (by omega))) (by omega)) hG rfl rfl (fun q hq => absurd hq (Nat.not_lt_zero _))
end ZShelf2
