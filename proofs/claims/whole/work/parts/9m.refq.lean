/-! ===== the reference: the row looked at ===== -/
section ZRefQ
variable {l : Launch} {Xi : zXi} {d : Nat} {I : zI} {g : zG}
theorem m_isTold (hl : l.stackTraces = false) (hd : 1 ≤ d) (hs : zSt g) {bk : List (Nat × Nat)} (hL : rLn I bk) {q : Nat} (hq : q < 64) : zD l Xi mX13_isTold d [.ref 74, .int (nI q)] I g (some (.int (if bkA bk q then 1 else 0))) I := by
  refine zC_of hl rfl rfl rfl (Nat.le_of_ble_eq_true rfl) (zav_r (zSt_ob hs 74 13 rfl).1 (zav_i zav_0)) ?_
  obtain ⟨h1, h2, h3⟩ := hL
  have loop : ∀ m p, p + m = bk.length → anyB (fun i => decide (bkP bk i = q)) p = false → zJ l Xi mX13_isTold d 0 0 2 [some (.ref 74), some (.int (nI q)), some (.int (nI p))] [] (I, g) (fun r' h' => r' = .inl (some (.int (if bkA bk q then 1 else 0))) ∧ h' = (I, g)) := by
    intro m
    induction m with
    | zero =>
      intro p hp hI
      obtain rfl : p = bk.length := by omega
      refine zJ_iload_n dX13_isTold_2 rfl ?_
      refine zJ_aload_n dX13_isTold_3 rfl ?_
      refine zP_geti lf_X13_215 (zSt_ob hs 74 13 rfl) rfl dX13_isTold_4 ?_
      refine zJ_icmp_ge 30 dX13_isTold_7 (by decide) (fun _ => ?_) (fun c7 => absurd (by rw [h1]; exact nI_le (by omega) (by omega)) c7)
      refine zJ_iconst (v := nI 0) dX13_isTold_30 rfl ?_
      refine zJ_zret rfl (by decide) dX13_isTold_31 ?_
      exact ⟨by unfold bkA; rw [hI]; rfl, rfl⟩
    | succ m ih =>
      intro p hp hI
      have hp3 := h3 p (by omega)
      refine zJ_iload_n dX13_isTold_2 rfl ?_
      refine zJ_aload_n dX13_isTold_3 rfl ?_
      refine zP_geti lf_X13_215 (zSt_ob hs 74 13 rfl) rfl dX13_isTold_4 ?_
      refine zJ_icmp_ge 30 dX13_isTold_7 (by decide) (fun c7 => absurd c7 (by rw [h1]; exact nI_ge (by omega) (by omega))) (fun _ => ?_)
      refine zJ_aload_n dX13_isTold_10 rfl ?_
      refine zP_getr lf_X13_55 (zSt_ob hs 74 13 rfl) rfl (zSt_rf hs 74 24 432 rfl) dX13_isTold_11 ?_
      refine zJ_iload_n dX13_isTold_14 rfl ?_
      refine zP_rowK (k := p) (zSt_g432 hs) (by omega) (by decide) dX13_isTold_15 ?_
      refine zJ_iconst (v := nI 0) dX13_isTold_16 rfl ?_
      refine zP_iald (zGr_ar (zSt_g432 hs) (i := p) (by omega)) (by first | assumption | with_reducible exact vp_in_nI (by omega) (by omega) | (simp (disch := omega) only [nI_add, pk_mul, pk_sub, pk_div, pk_rem, nI_clamp]; with_reducible exact vp_in_nI (by omega) (by omega))) dX13_isTold_17 ?_
      rw [nI_clamp (by omega), hp3.1]
      refine zJ_iload_n dX13_isTold_18 rfl ?_
      refine zJ_icmp_ne 24 dX13_isTold_19 (by decide) (fun c19 => ?_) (fun c19 => ?_)
      · skip
        refine zJ_iinc1 dX13_isTold_24 rfl (by decide) ?_
        refine zJ_goto 2 dX13_isTold_27 (by decide) ?_
        refine zJ_back (zle_r (zle_r (zle_r zle_0))) rfl (ih (p + 1) (by omega) ?_)
        show (anyB (fun i => decide (bkP bk i = q)) p || decide (bkP bk p = q)) = false
        rw [hI, Bool.false_or]
        exact decide_eq_false (fun e => c19 (by rw [e]))
      · skip
        refine zJ_iconst (v := nI 1) dX13_isTold_22 rfl ?_
        refine zJ_zret rfl (by decide) dX13_isTold_23 ?_
        have e : bkA bk q = true := anyB_iff.mpr ⟨p, by omega, decide_eq_true ((nI_eq (by have := hp3.2.2.1; omega) (by omega)).mp c19)⟩
        exact ⟨by rw [e]; rfl, rfl⟩
  refine zJ_iconst (v := nI 0) dX13_isTold_0 rfl ?_
  refine zJ_istore_m 2 dX13_isTold_1 rfl (Nat.le_of_ble_eq_true rfl) (by decide) ?_
  exact loop bk.length 0 (by omega) rfl
theorem okR_fit {b : zWo} {R : rwT} {j : Nat} (hb : bdOk b) (hok : okR b R) (hj : j < 2 * bN b) : okR b (fitR b R j) := by
  have hN6 := hb.2.2.2.2.1
  unfold fitR
  split
  · exact okR_rip hb hok (by omega)
  · split
    · next h => exact okR_layA hb hok (by omega) (by omega) h
    · exact hok
theorem rLn_of {J : zI} {bk : List (Nat × Nat)} (h : rLn I bk) (e0 : J 74 35 = I 74 35) (e : ∀ a, 433 ≤ a → a ≤ 440 → J a = I a) : rLn J bk := ⟨e0.trans h.1, h.2.1, fun i hi => by have := h.2.1; rw [e (432 + 1 + i) (by omega) (by omega)]; exact h.2.2 i hi⟩
theorem m_isSo (hl : l.stackTraces = false) (hd : 10 ≤ d) (hs : zSt g) {b : zWo} {R : rwT} {bk : List (Nat × Nat)} (hB : rB I b) (hL : rLn I bk) {n k : Nat} (hR : rRow I 533 b R) (hok : okR b R) (hn : n < bN b) (hk : k < 2) : zEi l Xi mX13_isSo d [.ref 74, .int (nI n), .int (nI k)] I g (fun v J => v = (if fitB b R bk.length (bkP bk) (bkW bk) (2 * n + k) then 1 else 0) ∧ rH 535 I J ∧ rRow J 535 b (fitR b R (2 * n + k))) := by
  refine zC_of hl rfl rfl rfl (Nat.le_of_ble_eq_true rfl) (zav_r (zSt_ob hs 74 13 rfl).1 (zav_i (zav_i zav_0))) ?_
  have hb := hB.1
  have hN6 := hb.2.2.2.2.1
  obtain ⟨Q, hQ⟩ : ∃ Q, fitR b R (2 * n + k) = Q := ⟨_, rfl⟩
  have hokQ : okR b Q := by rw [← hQ]; exact okR_fit hb hok (by omega)
  have ha := zSt_ar hs 535 519 rfl
  refine zJ_aload_n dX13_isSo_0 rfl ?_
  refine zJ_iload_n dX13_isSo_1 rfl ?_
  refine zJ_iload_n dX13_isSo_2 rfl ?_
  refine zP_ecallVi [_, _] _ lv_X13_431 (m_tries (d := d - 1) hl (by omega) hs hB hR hok hn hk) (zSt_ob hs 74 13 rfl) rfl (by omega) (Nat.le_of_ble_eq_true rfl) rfl dX13_isSo_3 (fun x J h => ?_)
  obtain ⟨rfl, h1, h2⟩ := h
  rw [hQ] at h2 ⊢
  refine zJ_if_ne 11 dX13_isSo_6 (by decide) (fun c6 => ?_) (fun c6 => ?_)
  · replace c6 := zb1.mp c6
    refine zJ_iconst (v := nI 0) dX13_isSo_11 rfl ?_
    refine zJ_istore_m 3 dX13_isSo_12 rfl (Nat.le_of_ble_eq_true rfl) (by decide) ?_
    have hL2 : rLn J bk := rLn_of hL (by rw [h1 74 (by decide) (by decide) (by decide) (by decide) (by decide)]) (fun a q1 q2 => h1 a (by omega) (by omega) (by omega) (by omega) (by omega))
    have hBJ : rB J b := rB_rH hB (by omega) h1
    obtain ⟨l1, l2, l3⟩ := hL2
    have hfB : fitB b R bk.length (bkP bk) (bkW bk) (2 * n + k) = allB (fun i => decide (usn Q (bkP bk i) = bkW bk i)) bk.length := by unfold fitB; rw [c6, hQ, Bool.true_and]
    rw [hfB]
    have loop : ∀ m p, p + m = bk.length → allB (fun i => decide (usn Q (bkP bk i) = bkW bk i)) p = true → zJ l Xi mX13_isSo d 0 0 13 [some (.ref 74), some (.int (nI n)), some (.int (nI k)), some (.int (nI p))] [] (J, g) (fun r' h' => ∃ x I', r' = .inl (some (.int x)) ∧ h' = (I', g) ∧ x = (if allB (fun i => decide (usn Q (bkP bk i) = bkW bk i)) bk.length then 1 else 0) ∧ rH 535 I I' ∧ rRow I' 535 b Q) := by
      intro m
      induction m with
      | zero =>
        intro p hp hI
        obtain rfl : p = bk.length := by omega
        refine zJ_iload_n dX13_isSo_13 rfl ?_
        refine zJ_aload_n dX13_isSo_14 rfl ?_
        refine zP_geti lf_X13_215 (zSt_ob hs 74 13 rfl) rfl dX13_isSo_15 ?_
        refine zJ_icmp_ge 59 dX13_isSo_18 (by decide) (fun _ => ?_) (fun c18 => absurd (by rw [l1]; exact nI_le (by omega) (by omega)) c18)
        refine zJ_iconst (v := nI 1) dX13_isSo_59 rfl ?_
        refine zJ_zret rfl (by decide) dX13_isSo_60 ?_
        exact ⟨_, J, rfl, rfl, by rw [hI]; rfl, h1, h2⟩
      | succ m ih =>
        intro p hp hI
        have hp3 := l3 p (by omega)
        have hu6 : usn Q (bkP bk p) ≤ 6 := cB_le
        refine zJ_iload_n dX13_isSo_13 rfl ?_
        refine zJ_aload_n dX13_isSo_14 rfl ?_
        refine zP_geti lf_X13_215 (zSt_ob hs 74 13 rfl) rfl dX13_isSo_15 ?_
        refine zJ_icmp_ge 59 dX13_isSo_18 (by decide) (fun c18 => absurd c18 (by rw [l1]; exact nI_ge (by omega) (by omega))) (fun _ => ?_)
        refine zJ_aload_n dX13_isSo_21 rfl ?_
        refine zJ_aload_n dX13_isSo_22 rfl ?_
        refine zP_getr lf_X13_76 (zSt_ob hs 74 13 rfl) rfl (zSt_rf hs 74 32 535 rfl) dX13_isSo_23 ?_
        refine zJ_aload_n dX13_isSo_26 rfl ?_
        refine zP_getr lf_X13_55 (zSt_ob hs 74 13 rfl) rfl (zSt_rf hs 74 24 432 rfl) dX13_isSo_27 ?_
        refine zJ_iload_n dX13_isSo_30 rfl ?_
        refine zP_rowK (k := p) (zSt_g432 hs) (by omega) (by decide) dX13_isSo_31 ?_
        refine zJ_iconst (v := nI 0) dX13_isSo_32 rfl ?_
        refine zP_iald (zGr_ar (zSt_g432 hs) (i := p) (by omega)) (by first | assumption | with_reducible exact vp_in_nI (by omega) (by omega) | (simp (disch := omega) only [nI_add, pk_mul, pk_sub, pk_div, pk_rem, nI_clamp]; with_reducible exact vp_in_nI (by omega) (by omega))) dX13_isSo_33 ?_
        rw [nI_clamp (by omega), hp3.1]
        refine zP_callVi [_, _] _ lv_X13_291 (k_users (d := d - 1) hl (by omega) hs hBJ ha hp3.2.2.1) (zSt_ob hs 74 13 rfl) rfl (by omega) (Nat.le_of_ble_eq_true rfl) rfl dX13_isSo_34 ?_
        refine zP_callSi [_] _ ls_X13_295 (k_ones (d := d - 1) hl (by omega)) rfl (by omega) (Nat.le_of_ble_eq_true rfl) rfl dX13_isSo_37 ?_
        rw [on_F hN6, r_users hb h2 hokQ hp3.2.2.1]
        refine zJ_aload_n dX13_isSo_40 rfl ?_
        refine zP_getr lf_X13_55 (zSt_ob hs 74 13 rfl) rfl (zSt_rf hs 74 24 432 rfl) dX13_isSo_41 ?_
        refine zJ_iload_n dX13_isSo_44 rfl ?_
        refine zP_rowK (k := p) (zSt_g432 hs) (by omega) (by decide) dX13_isSo_45 ?_
        refine zJ_iconst (v := nI 1) dX13_isSo_46 rfl ?_
        refine zP_iald (zGr_ar (zSt_g432 hs) (i := p) (by omega)) (by first | assumption | with_reducible exact vp_in_nI (by omega) (by omega) | (simp (disch := omega) only [nI_add, pk_mul, pk_sub, pk_div, pk_rem, nI_clamp]; with_reducible exact vp_in_nI (by omega) (by omega))) dX13_isSo_47 ?_
        rw [nI_clamp (by omega), hp3.2.1]
        refine zJ_icmp_eq 53 dX13_isSo_48 (by decide) (fun c48 => ?_) (fun c48 => ?_)
        · skip
          refine zJ_iinc1 dX13_isSo_53 rfl (by decide) ?_
          refine zJ_goto 13 dX13_isSo_56 (by decide) ?_
          have e := (nI_eq (by omega) (by have := hp3.2.2.2; omega)).mp c48
          refine zJ_back (zle_r (zle_r (zle_r (zle_r zle_0)))) rfl (ih (p + 1) (by omega) ?_)
          show (allB (fun i => decide (usn Q (bkP bk i) = bkW bk i)) p && decide (usn Q (bkP bk p) = bkW bk p)) = true
          rw [hI, decide_eq_true e]; rfl
        · skip
          refine zJ_iconst (v := nI 0) dX13_isSo_51 rfl ?_
          refine zJ_zret rfl (by decide) dX13_isSo_52 ?_
          have e : decide (usn Q (bkP bk p) = bkW bk p) = false := decide_eq_false (fun z => c48 (by rw [z]))
          exact ⟨_, J, rfl, rfl, by rw [allB_no (f := fun i => decide (usn Q (bkP bk i) = bkW bk i)) (show p < bk.length by omega) e]; rfl, h1, h2⟩
    exact zJ_back (zle_r (zle_r (zle_r (zle_r zle_0)))) rfl (loop bk.length 0 (by omega) rfl)
  · replace c6 := zb0.mp c6
    refine zJ_iconst (v := nI 0) dX13_isSo_9 rfl ?_
    refine zJ_zret rfl (by decide) dX13_isSo_10 ?_
    exact ⟨_, J, rfl, rfl, by unfold fitB; rw [c6, Bool.false_and]; rfl, h1, h2⟩
end ZRefQ
