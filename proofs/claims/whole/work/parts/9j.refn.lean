/-! ===== the reference: refusals, tries ===== -/
section ZRefN
variable {l : Launch} {Xi : zXi} {d : Nat} {I : zI} {g : zG}
theorem m_badF (hl : l.stackTraces = false) (hd : 1 ≤ d) (hs : zSt g) {w r : Int32} (h0 : I 74 0 = nI 0) : zD l Xi mX13_bad d [.ref 74, .int (nI 0), .int w, .int r] I g (some (.int (nI 0))) I := by
  refine zC_of hl rfl rfl rfl (Nat.le_of_ble_eq_true rfl) (zav_r (zSt_ob hs 74 13 rfl).1 (zav_i (zav_i (zav_i zav_0)))) ?_
  refine zJ_iload_n dX13_bad_0 rfl ?_
  refine zJ_if_eq 26 dX13_bad_1 (by decide) (fun _ => ?_) (fun c1 => absurd rfl c1)
  refine zJ_aload_n dX13_bad_26 rfl ?_
  refine zP_geti lf_X13_107 (zSt_ob hs 74 13 rfl) rfl dX13_bad_27 ?_
  rw [h0]
  refine zJ_if_eq 37 dX13_bad_30 (by decide) (fun _ => ?_) (fun c30 => absurd rfl c30)
  refine zJ_iconst (v := nI 0) dX13_bad_37 rfl ?_
  refine zJ_zret rfl (by decide) dX13_bad_38 ?_
  exact ⟨rfl, rfl⟩
def badM (I : zI) (w r : Nat) : zI := zup (zup I 74 0 (nI w)) 76 r (I 76 r + nI 1)
theorem m_badT (hl : l.stackTraces = false) (hd : 1 ≤ d) (hs : zSt g) {w r : Nat} (h0 : I 74 0 = nI 0) (hw : 1 ≤ w ∧ w ≤ 2) (hr : r < 2) : zD l Xi mX13_bad d [.ref 74, .int (nI 1), .int (nI w), .int (nI r)] I g (some (.int (nI 1))) (badM I w r) := by
  refine zC_of hl rfl rfl rfl (Nat.le_of_ble_eq_true rfl) (zav_r (zSt_ob hs 74 13 rfl).1 (zav_i (zav_i (zav_i zav_0)))) ?_
  refine zJ_iload_n dX13_bad_0 rfl ?_
  refine zJ_if_eq 26 dX13_bad_1 (by decide) (fun c1 => absurd c1 (by decide)) (fun _ => ?_)
  refine zJ_aload_n dX13_bad_4 rfl ?_
  refine zP_geti lf_X13_107 (zSt_ob hs 74 13 rfl) rfl dX13_bad_5 ?_
  rw [h0]
  refine zJ_if_ne 26 dX13_bad_8 (by decide) (fun c8 => absurd rfl c8) (fun _ => ?_)
  refine zJ_aload_n dX13_bad_11 rfl ?_
  refine zJ_iload_n dX13_bad_12 rfl ?_
  refine zP_puti lf_X13_107 (zSt_ob hs 74 13 rfl) rfl dX13_bad_13 ?_
  refine zJ_aload_n dX13_bad_16 rfl ?_
  refine zP_getr lf_X13_17 (zSt_ob hs 74 13 rfl) rfl (zSt_rf hs 74 10 76 rfl) dX13_bad_17 ?_
  refine zJ_iload_n dX13_bad_20 rfl ?_
  refine zJ_dup2 dX13_bad_21 rfl rfl ?_
  refine zP_iald (zSt_ar hs 76 2 rfl) (by first | assumption | with_reducible exact vp_in_nI (by omega) (by omega) | (simp (disch := omega) only [nI_add, pk_mul, pk_sub, pk_div, pk_rem, nI_clamp]; with_reducible exact vp_in_nI (by omega) (by omega))) dX13_bad_22 ?_
  refine zJ_iconst (v := nI 1) dX13_bad_23 rfl ?_
  refine zJ_iadd dX13_bad_24 ?_
  refine zP_iast (zSt_ar hs 76 2 rfl) (by first | assumption | with_reducible exact vp_in_nI (by omega) (by omega) | (simp (disch := omega) only [nI_add, pk_mul, pk_sub, pk_div, pk_rem, nI_clamp]; with_reducible exact vp_in_nI (by omega) (by omega))) dX13_bad_25 ?_
  refine zJ_aload_n dX13_bad_26 rfl ?_
  refine zP_geti lf_X13_107 (zSt_ob hs 74 13 rfl) rfl dX13_bad_27 ?_
  rw [zup_row (by decide), zup_same, upd_at]
  refine zJ_if_eq 37 dX13_bad_30 (by decide) (fun c30 => absurd c30 (nI_ne0 (by omega) (by omega))) (fun _ => ?_)
  refine zJ_iconst (v := nI 1) dX13_bad_33 rfl ?_
  refine zJ_goto 38 dX13_bad_34 (by decide) ?_
  refine zJ_zret rfl (by decide) dX13_bad_38 ?_
  refine ⟨rfl, ?_⟩
  rw [nI_clamp (by omega), zup_row (by decide)]
  rfl
theorem m_badS (hl : l.stackTraces = false) (hd : 1 ≤ d) (hs : zSt g) {x w r : Int32} (h0 : ¬ I 74 0 = nI 0) : zD l Xi mX13_bad d [.ref 74, .int x, .int w, .int r] I g (some (.int (nI 1))) I := by
  refine zC_of hl rfl rfl rfl (Nat.le_of_ble_eq_true rfl) (zav_r (zSt_ob hs 74 13 rfl).1 (zav_i (zav_i (zav_i zav_0)))) ?_
  refine zJ_iload_n dX13_bad_0 rfl ?_
  refine zJ_if_eq 26 dX13_bad_1 (by decide) (fun c1 => ?_) (fun c1 => ?_)
  · skip
    refine zJ_aload_n dX13_bad_26 rfl ?_
    refine zP_geti lf_X13_107 (zSt_ob hs 74 13 rfl) rfl dX13_bad_27 ?_
    refine zJ_if_eq 37 dX13_bad_30 (by decide) (fun c30 => absurd c30 h0) (fun _ => ?_)
    refine zJ_iconst (v := nI 1) dX13_bad_33 rfl ?_
    refine zJ_goto 38 dX13_bad_34 (by decide) ?_
    refine zJ_zret rfl (by decide) dX13_bad_38 ?_
    exact ⟨rfl, rfl⟩
  · skip
    refine zJ_aload_n dX13_bad_4 rfl ?_
    refine zP_geti lf_X13_107 (zSt_ob hs 74 13 rfl) rfl dX13_bad_5 ?_
    refine zJ_if_ne 26 dX13_bad_8 (by decide) (fun _ => ?_) (fun c8 => absurd c8 h0)
    refine zJ_aload_n dX13_bad_26 rfl ?_
    refine zP_geti lf_X13_107 (zSt_ob hs 74 13 rfl) rfl dX13_bad_27 ?_
    refine zJ_if_eq 37 dX13_bad_30 (by decide) (fun c30 => absurd c30 h0) (fun _ => ?_)
    refine zJ_iconst (v := nI 1) dX13_bad_33 rfl ?_
    refine zJ_goto 38 dX13_bad_34 (by decide) ?_
    refine zJ_zret rfl (by decide) dX13_bad_38 ?_
    exact ⟨rfl, rfl⟩
theorem m_tries (hl : l.stackTraces = false) (hd : 9 ≤ d) (hs : zSt g) {b : zWo} {R : rwT} (hB : rB I b) {n k : Nat} (hR : rRow I 533 b R) (hok : okR b R) (hn : n < bN b) (hk : k < 2) : zEi l Xi mX13_tries d [.ref 74, .int (nI n), .int (nI k)] I g (fun v J => v = (if fitD b R (2 * n + k) then 1 else 0) ∧ rH 535 I J ∧ rRow J 535 b (fitR b R (2 * n + k))) := by
  refine zC_of hl rfl rfl rfl (Nat.le_of_ble_eq_true rfl) (zav_r (zSt_ob hs 74 13 rfl).1 (zav_i (zav_i zav_0))) ?_
  have hN6 := hB.1.2.2.2.2.1
  have hk2 : (2 * n + k) / 2 = n := by omega
  have ha := zSt_ar hs 535 519 rfl
  obtain ⟨J0, hJ0⟩ : ∃ J, va_up I 535 (fun k => if k < 519 then I 533 k else I 535 k) = J := ⟨_, rfl⟩
  have hf : fOn 535 I J0 := fun c hc => by rw [← hJ0, va_up_row hc]
  have hR0 : rRow J0 535 b R := by
    have e : ∀ j, j < 519 → J0 535 j = I 533 j := fun j hj => by rw [← hJ0, va_up_same]; exact if_pos hj
    exact ⟨fun j hj => by rw [e j (by omega)]; exact hR.1 j hj, fun m hm => by rw [e _ (by omega)]; exact hR.2.1 m hm, by rw [e _ (by omega)]; exact hR.2.2⟩
  have hB0 : rB J0 b := rB_rH hB (by omega) (rH_on hf)
  have hkk : k = 0 ∨ k = 1 := by omega
  rcases hkk with rfl | rfl
  · have e1 : fitD b R (2 * n + 0) = anyB (tin R n) 64 := by unfold fitD; rw [if_pos (by omega), hk2]
    have e2 : fitR b R (2 * n + 0) = ripM R n := by unfold fitR; rw [if_pos (by omega), hk2]
    rw [e1, e2]
    refine zJ_aload_n dX13_tries_0 rfl ?_
    refine zP_getr lf_X13_70 (zSt_ob hs 74 13 rfl) rfl (zSt_rf hs 74 30 533 rfl) dX13_tries_1 ?_
    refine zJ_aload_n dX13_tries_4 rfl ?_
    refine zP_getr lf_X13_76 (zSt_ob hs 74 13 rfl) rfl (zSt_rf hs 74 32 535 rfl) dX13_tries_5 ?_
    refine zP_callSv [_, _] _ ls_X13_379 (k_copies (d := d - 1) hl (by omega) (zSt_ar hs 533 519 rfl) ha (by decide)) rfl (by omega) (Nat.le_of_ble_eq_true rfl) rfl dX13_tries_8 ?_
    rw [hJ0]
    refine zJ_iload_n dX13_tries_11 rfl ?_
    refine zJ_if_ne 27 dX13_tries_12 (by decide) (fun c12 => absurd rfl c12) (fun _ => ?_)
    refine zJ_aload_n dX13_tries_15 rfl ?_
    refine zJ_aload_n dX13_tries_16 rfl ?_
    refine zP_getr lf_X13_76 (zSt_ob hs 74 13 rfl) rfl (zSt_rf hs 74 32 535 rfl) dX13_tries_17 ?_
    refine zJ_iload_n dX13_tries_20 rfl ?_
    refine zP_ecallVi [_, _] _ lv_X13_354 (m_rips (d := d - 1) hl (by omega) hs ha hR0 hN6 (by omega)) (zSt_ob hs 74 13 rfl) rfl (by omega) (Nat.le_of_ble_eq_true rfl) rfl dX13_tries_21 (fun x J h => ?_)
    obtain ⟨rfl, h1, h2⟩ := h
    refine zJ_goto 36 dX13_tries_24 (by decide) ?_
    refine zJ_zret rfl zbr dX13_tries_36 ?_
    exact ⟨_, J, rfl, rfl, rfl, rH_trans (rH_on hf) (rH_on h1), h2⟩
  · have e1 : fitD b R (2 * n + 1) = decide (0 < bpc b n) := by unfold fitD; rw [if_neg (by omega), hk2]
    have e2 : fitR b R (2 * n + 1) = if 0 < bpc b n then layA b R n else R := by unfold fitR; rw [if_neg (by omega), hk2]
    rw [e1, e2]
    refine zJ_aload_n dX13_tries_0 rfl ?_
    refine zP_getr lf_X13_70 (zSt_ob hs 74 13 rfl) rfl (zSt_rf hs 74 30 533 rfl) dX13_tries_1 ?_
    refine zJ_aload_n dX13_tries_4 rfl ?_
    refine zP_getr lf_X13_76 (zSt_ob hs 74 13 rfl) rfl (zSt_rf hs 74 32 535 rfl) dX13_tries_5 ?_
    refine zP_callSv [_, _] _ ls_X13_379 (k_copies (d := d - 1) hl (by omega) (zSt_ar hs 533 519 rfl) ha (by decide)) rfl (by omega) (Nat.le_of_ble_eq_true rfl) rfl dX13_tries_8 ?_
    rw [hJ0]
    refine zJ_iload_n dX13_tries_11 rfl ?_
    refine zJ_if_ne 27 dX13_tries_12 (by decide) (fun _ => ?_) (fun c12 => absurd c12 (by decide))
    refine zJ_aload_n dX13_tries_27 rfl ?_
    refine zJ_aload_n dX13_tries_28 rfl ?_
    refine zP_getr lf_X13_76 (zSt_ob hs 74 13 rfl) rfl (zSt_rf hs 74 32 535 rfl) dX13_tries_29 ?_
    refine zJ_iload_n dX13_tries_32 rfl ?_
    refine zP_ecallVi [_, _] _ lv_X13_351 (m_laysOne (d := d - 1) hl (by omega) hs hB0 ha (by omega) hR0 hok hn) (zSt_ob hs 74 13 rfl) rfl (by omega) (Nat.le_of_ble_eq_true rfl) rfl dX13_tries_33 (fun x J h => ?_)
    obtain ⟨rfl, h1, h2⟩ := h
    refine zJ_zret rfl zbr dX13_tries_36 ?_
    exact ⟨_, J, rfl, rfl, rfl, rH_trans (rH_on hf) h1, h2⟩
end ZRefN
