/-! ===== Router.perform: a step of work ===== -/
section ZPerform
variable {l : Launch} {Xi : zXi} {d : Nat} {I : zI} {g : zG}
def wlkB (b : zWo) (R : Nat → Int32) (p : Nat) : Bool := decide (usn R p = 0) && decide (bitF (pbB b p) (bN b) = 0)
def perB (b : zWo) (R : Nat → Int32) (k f t : Nat) : Bool :=
  if k = 0 then decide (R 518 < nI 400) else if k = 1 then decide (0 < bpc b f) else if k = 2 then anyB (tin R f) 64 else if k = 3 then decide (¬ R (512 + f) = nI t) else if k = 4 then wlkB b R (t * 8 + f) else decide (k = 5)
noncomputable def perM (b : zWo) (R : Nat → Int32) (k f t : Nat) : Nat → Int32 :=
  if k = 0 then (if R 518 < nI 400 then rndM b R else R) else if k = 1 then (if 0 < bpc b f then layA b R f else R) else if k = 2 then ripM R f else if k = 3 then upd R (512 + f) (nI t) else if k = 4 then (if wlkB b R (t * 8 + f) then upd R (448 + (t * 8 + f)) (nI 1 - R (448 + (t * 8 + f))) else R) else if k = 5 then easM R (nI f) else R
theorem eas_eq {s : Nat} {R : Nat → Int32} {v : Int32} {f : Nat → Int32} (hR : zRow I s R) (hf : ∀ p, p < 64 → f p = if I (s + 3) p - v ≤ 0 then 0 else I (s + 3) p - v) : zRow (va_up I (s + 3) f) s (easM R v) := by
  obtain ⟨h1, h2, h3, h4, h5, h6⟩ := hR
  have e : ∀ k, (k < 384 ∨ 448 ≤ k) → easM R v k = R k := fun k hk => by unfold easM; rw [if_neg (by omega)]
  refine ⟨fun k hk => ?_, fun q hq => ?_, fun q hq => ?_, fun q hq => ?_, fun m hm => ?_, ?_⟩
  · rw [va_up_row (by omega), e k (by omega)]; exact h1 k hk
  · rw [va_up_row (by omega), usn_congr hq (fun k hk => e k (by omega))]; exact h2 q hq
  · rw [va_up_same, hf q hq, h3 q hq]; unfold easM; rw [if_pos (show 384 ≤ 384 + q ∧ 384 + q < 448 by omega)]
  · rw [va_up_row (by omega), e _ (by omega)]; exact h4 q hq
  · rw [va_up_row (by omega), e _ (by omega)]; exact h5 m hm
  · rw [va_up_row (by omega), e _ (by omega)]; exact h6
theorem wlk_eq {b : zWo} {R : Nat → Int32} {s p : Nat} (hW : zWi I b) (hR : zRow I s R) (hp : p < 64) : (0 < I (s + 2) p ∨ ¬ I 8 p = 0) ↔ wlkB b R p = false := by
  rw [hR.2.1 p hp, hW.2.2.2.2.2.1 p hp]
  have hu := usn_le (R := R) (p := p)
  have h0 : (0 < nI (usn R p)) ↔ 0 < usn R p := by
    rw [show (0 : Int32) = nI 0 from rfl, nI_ltI (by omega) (by omega)]
  rw [h0]
  unfold wlkB
  by_cases e : usn R p = 0
  · by_cases z : bitF (pbB b p) (bN b) = 0
    · simp [e, z]
    · simp [e, z]
  · have : 0 < usn R p := by omega
    simp [e, this]
theorem k_ripUp (hl : l.stackTraces = false) (hd : 4 ≤ d) (hs : zSt g) {s n : Nat} {R : Nat → Int32} (hst : zK g s 8 zLt_State) (hn : n < 6) (hR : zRow I s R) : zEi l Xi mX6_ripUp d [.ref 43, .ref s, .int (nI n)] I g (fun x J => x = (if anyB (tin R n) 64 then 1 else 0) ∧ fX s I J ∧ zRow J s (ripM R n)) := by
  refine zC_imp (k_X6_ripUp hl hd hs hst hn) (fun r h' hp => ?_)
  obtain ⟨h1, h2, h3⟩ := drop_all hn hR
  exact ⟨_, _, hp.1, hp.2, by rw [h3], h1, h2⟩
theorem k_X6_perform (hl : l.stackTraces = false) (hd : 7 ≤ d) (hs : zSt g) {s k f t : Nat} {b : zWo} {R : Nat → Int32} (hst : zK g s 8 zLt_State) (hsN : 60 < s) (hk : k < 8) (hf : (1 ≤ k ∧ k ≤ 3 → f < bN b) ∧ (k = 4 → f < 8 ∧ t < 8)) (hW : zWi I b) (hR : zRow I s R) (hok : okR b R) : zEi l Xi mX6_perform d [.ref 43, .ref s, .int (nI k), .int (nI f), .int (nI t)] I g (fun x J => x = (if perB b R k f t then 1 else 0) ∧ fX s I J ∧ zRow J s (perM b R k f t)) := by
  have hN6 := hW.1.2.2.2.2.1
  refine zC_of hl rfl rfl rfl (Nat.le_of_ble_eq_true rfl) (zav_r (zSt_ob hs 43 6 rfl).1 (zav_r hst.1.1 (zav_i (zav_i (zav_i zav_0))))) ?_
  have hk8 : k = 0 ∨ k = 1 ∨ k = 2 ∨ k = 3 ∨ k = 4 ∨ k = 5 ∨ k = 6 ∨ k = 7 := by omega
  rcases hk8 with rfl | rfl | rfl | rfl | rfl | rfl | rfl | rfl
  · have e1 : perB b R 0 f t = decide (R 518 < nI 400) := rfl
    have e2 : perM b R 0 f t = if R 518 < nI 400 then rndM b R else R := rfl
    rw [e1, e2]
    refine zJ_iload_n dX6_perform_0 rfl ?_
    refine zJ_tabIn 40 dX6_perform_1 (by decide) (by decide) rfl (by decide) ?_
    refine zJ_aload_n dX6_perform_40 rfl ?_
    refine zP_geti lf_X6_40 hst.1 rfl dX6_perform_41 ?_
    refine zJ_sipush (v := nI 400) dX6_perform_44 rfl ?_
    rw [hR.2.2.2.2.2]
    refine zJ_icmp_lt 52 dX6_perform_47 (by decide) (fun c47 => ?_) (fun c47 => ?_)
    · skip
      refine zJ_aload_n dX6_perform_52 rfl ?_
      refine zJ_aload_n dX6_perform_53 rfl ?_
      refine zP_ecallVv [_] _ lv_X6_46 (k_X6_goRound (d := d - 1) hl (by omega) hs hst hsN hW hR hok) (zSt_ob hs 43 6 rfl) rfl (by omega) (Nat.le_of_ble_eq_true rfl) rfl dX6_perform_54 (fun J hJ => ?_)
      refine zJ_iconst (v := nI 1) dX6_perform_57 rfl ?_
      refine zJ_zret rfl (by decide) dX6_perform_58 ?_
      rw [if_pos c47, decide_eq_true c47]
      exact ⟨_, J, rfl, rfl, rfl, hJ⟩
    · skip
      refine zJ_iconst (v := nI 0) dX6_perform_50 rfl ?_
      refine zJ_zret rfl (by decide) dX6_perform_51 ?_
      rw [if_neg c47, decide_eq_false c47]
      exact ⟨_, I, rfl, rfl, rfl, fX_rfl, hR⟩
  · have e1 : perB b R 1 f t = decide (0 < bpc b f) := rfl
    have e2 : perM b R 1 f t = if 0 < bpc b f then layA b R f else R := rfl
    rw [e1, e2]
    have hfN := hf.1 (by omega)
    refine zJ_iload_n dX6_perform_0 rfl ?_
    refine zJ_tabIn 59 dX6_perform_1 (by decide) (by decide) rfl (by decide) ?_
    refine zJ_aload_n dX6_perform_59 rfl ?_
    refine zJ_aload_n dX6_perform_60 rfl ?_
    refine zJ_iload_n dX6_perform_61 rfl ?_
    refine zP_ecallVi [_, _] _ lv_X6_50 (k_X6_layAnew (d := d - 1) hl (by omega) hs hst hsN (by omega) hfN hW hR) (zSt_ob hs 43 6 rfl) rfl (by omega) (Nat.le_of_ble_eq_true rfl) rfl dX6_perform_62 (fun x J hx => ?_)
    obtain ⟨rfl, hx⟩ := hx
    refine zJ_zret rfl zbr dX6_perform_65 ?_
    exact ⟨_, J, rfl, rfl, rfl, hx⟩
  · have e1 : perB b R 2 f t = anyB (tin R f) 64 := rfl
    have e2 : perM b R 2 f t = ripM R f := rfl
    rw [e1, e2]
    have hfN := hf.1 (by omega)
    refine zJ_iload_n dX6_perform_0 rfl ?_
    refine zJ_tabIn 66 dX6_perform_1 (by decide) (by decide) rfl (by decide) ?_
    refine zJ_aload_n dX6_perform_66 rfl ?_
    refine zJ_aload_n dX6_perform_67 rfl ?_
    refine zJ_iload_n dX6_perform_68 rfl ?_
    refine zP_ecallVi [_, _] _ lv_X6_54 (k_ripUp (d := d - 1) hl (by omega) hs hst (by omega) hR) (zSt_ob hs 43 6 rfl) rfl (by omega) (Nat.le_of_ble_eq_true rfl) rfl dX6_perform_69 (fun x J hx => ?_)
    obtain ⟨rfl, hx⟩ := hx
    refine zJ_zret rfl zbr dX6_perform_72 ?_
    exact ⟨_, J, rfl, rfl, rfl, hx⟩
  · have e1 : perB b R 3 f t = decide (¬ R (512 + f) = nI t) := rfl
    have e2 : perM b R 3 f t = upd R (512 + f) (nI t) := rfl
    rw [e1, e2]
    have hfN := hf.1 (by omega)
    have hc := hR.2.2.2.2.1 f (by omega)
    refine zJ_iload_n dX6_perform_0 rfl ?_
    refine zJ_tabIn 73 dX6_perform_1 (by decide) (by decide) rfl (by decide) ?_
    refine zJ_aload_n dX6_perform_73 rfl ?_
    refine zP_getr lf_X6_57 hst.1 rfl (zK_rf hst 4 4 5 6 rfl) dX6_perform_74 ?_
    refine zJ_iload_n dX6_perform_77 rfl ?_
    refine zP_iald (zK_ar hst 4 4 5 6 rfl) (by first | assumption | with_reducible exact vp_in_nI (by omega) (by omega) | (simp (disch := omega) only [nI_add, pk_mul, pk_sub, pk_div, pk_rem, nI_clamp]; with_reducible exact vp_in_nI (by omega) (by omega))) dX6_perform_78 ?_
    rw [nI_clamp (by omega), hc]
    refine zJ_iload dX6_perform_79 rfl ?_
    refine zJ_icmp_eq 88 dX6_perform_81 (by decide) (fun c81 => ?_) (fun c81 => ?_)
    · skip
      refine zJ_iconst (v := nI 0) dX6_perform_88 rfl ?_
      refine zJ_istore dX6_perform_89 (Nat.le_of_ble_eq_true rfl) (by decide) ?_
      refine zJ_aload_n dX6_perform_91 rfl ?_
      refine zP_getr lf_X6_57 hst.1 rfl (zK_rf hst 4 4 5 6 rfl) dX6_perform_92 ?_
      refine zJ_iload_n dX6_perform_95 rfl ?_
      refine zJ_iload dX6_perform_96 rfl ?_
      refine zP_iast (zK_ar hst 4 4 5 6 rfl) (by first | assumption | with_reducible exact vp_in_nI (by omega) (by omega) | (simp (disch := omega) only [nI_add, pk_mul, pk_sub, pk_div, pk_rem, nI_clamp]; with_reducible exact vp_in_nI (by omega) (by omega))) dX6_perform_98 ?_
      refine zJ_iload dX6_perform_99 rfl ?_
      refine zJ_zret rfl (by decide) dX6_perform_101 ?_
      refine ⟨_, _, rfl, rfl, ?_, fX_zup fX_rfl (by omega), ?_⟩
      · rw [decide_eq_false (fun z => z c81)]; rfl
      · rw [nI_clamp (by omega)]; exact zRow_cr (by omega) hR
    · skip
      refine zJ_iconst (v := nI 1) dX6_perform_84 rfl ?_
      refine zJ_goto 89 dX6_perform_85 (by decide) ?_
      refine zJ_istore dX6_perform_89 (Nat.le_of_ble_eq_true rfl) (by decide) ?_
      refine zJ_aload_n dX6_perform_91 rfl ?_
      refine zP_getr lf_X6_57 hst.1 rfl (zK_rf hst 4 4 5 6 rfl) dX6_perform_92 ?_
      refine zJ_iload_n dX6_perform_95 rfl ?_
      refine zJ_iload dX6_perform_96 rfl ?_
      refine zP_iast (zK_ar hst 4 4 5 6 rfl) (by first | assumption | with_reducible exact vp_in_nI (by omega) (by omega) | (simp (disch := omega) only [nI_add, pk_mul, pk_sub, pk_div, pk_rem, nI_clamp]; with_reducible exact vp_in_nI (by omega) (by omega))) dX6_perform_98 ?_
      refine zJ_iload dX6_perform_99 rfl ?_
      refine zJ_zret rfl (by decide) dX6_perform_101 ?_
      refine ⟨_, _, rfl, rfl, ?_, fX_zup fX_rfl (by omega), ?_⟩
      · rw [decide_eq_true c81]; rfl
      · rw [nI_clamp (by omega)]; exact zRow_cr (by omega) hR
  · have e1 : perB b R 4 f t = wlkB b R (t * 8 + f) := rfl
    have e2 : perM b R 4 f t = if wlkB b R (t * 8 + f) then upd R (448 + (t * 8 + f)) (nI 1 - R (448 + (t * 8 + f))) else R := rfl
    rw [e1, e2]
    have hft := hf.2 rfl
    have hp : t * 8 + f < 64 := by omega
    have hw := wlk_eq hW hR hp
    refine zJ_iload_n dX6_perform_0 rfl ?_
    refine zJ_tabIn 102 dX6_perform_1 (by decide) (by decide) rfl (by decide) ?_
    refine zJ_aload_n dX6_perform_102 rfl ?_
    refine zJ_aload_n dX6_perform_103 rfl ?_
    refine zJ_iload dX6_perform_104 rfl ?_
    refine zJ_bipush (v := nI 8) dX6_perform_106 rfl ?_
    refine zJ_imul dX6_perform_108 ?_
    refine zJ_iload_n dX6_perform_109 rfl ?_
    refine zJ_iadd dX6_perform_110 ?_
    rw [pk_mul, nI_add]
    refine zP_callVi [_, _] _ lv_X6_60 (k_X6_turnWall (d := d - 1) hl (by omega) hs hst hp) (zSt_ob hs 43 6 rfl) rfl (by omega) (Nat.le_of_ble_eq_true rfl) rfl dX6_perform_111 ?_
    refine zJ_zret rfl (by by_cases z : 0 < I (s + 2) (t * 8 + f) ∨ ¬ I 8 (t * 8 + f) = 0; rw [if_pos z]; exact Or.inl rfl; rw [if_neg z]; exact Or.inr rfl) dX6_perform_114 ?_
    by_cases z : 0 < I (s + 2) (t * 8 + f) ∨ ¬ I 8 (t * 8 + f) = 0
    · have hwf := hw.mp z
      rw [if_pos z, if_pos z, hwf]
      exact ⟨_, _, rfl, rfl, rfl, fX_rfl, hR⟩
    · have hwt : wlkB b R (t * 8 + f) = true := by
        cases e : wlkB b R (t * 8 + f) with
        | true => rfl
        | false => exact absurd (hw.mpr e) z
      rw [if_neg z, if_neg z, hwt]
      refine ⟨_, _, rfl, rfl, rfl, fX_zup fX_rfl (by omega), ?_⟩
      rw [hR.2.2.2.1 _ hp]
      exact zRow_wl hp hR
  · have e1 : perB b R 5 f t = true := rfl
    have e2 : perM b R 5 f t = easM R (nI f) := rfl
    rw [e1, e2]
    refine zJ_iload_n dX6_perform_0 rfl ?_
    refine zJ_tabIn 115 dX6_perform_1 (by decide) (by decide) rfl (by decide) ?_
    refine zJ_aload_n dX6_perform_115 rfl ?_
    refine zJ_aload_n dX6_perform_116 rfl ?_
    refine zJ_iload_n dX6_perform_117 rfl ?_
    refine zP_ecallVv [_, _] _ lv_X6_63 (k_X6_easeAll (d := d - 1) hl (by omega) hs hst) (zSt_ob hs 43 6 rfl) rfl (by omega) (Nat.le_of_ble_eq_true rfl) rfl dX6_perform_118 (fun J hJ => ?_)
    refine zJ_iconst (v := nI 1) dX6_perform_121 rfl ?_
    refine zJ_zret rfl (by decide) dX6_perform_122 ?_
    obtain ⟨q, rfl, hq⟩ := hJ
    exact ⟨_, _, rfl, rfl, rfl, fX_up fX_rfl (by omega), eas_eq hR hq⟩
  · have e1 : perB b R 6 f t = false := rfl
    have e2 : perM b R 6 f t = R := rfl
    rw [e1, e2]
    refine zJ_iload_n dX6_perform_0 rfl ?_
    refine zJ_tabOut 123 dX6_perform_1 (Or.inr (by decide)) (by decide) ?_
    refine zJ_iconst (v := nI 0) dX6_perform_123 rfl ?_
    refine zJ_zret rfl (by decide) dX6_perform_124 ?_
    exact ⟨_, I, rfl, rfl, rfl, fX_rfl, hR⟩
  · have e1 : perB b R 7 f t = false := rfl
    have e2 : perM b R 7 f t = R := rfl
    rw [e1, e2]
    refine zJ_iload_n dX6_perform_0 rfl ?_
    refine zJ_tabOut 123 dX6_perform_1 (Or.inr (by decide)) (by decide) ?_
    refine zJ_iconst (v := nI 0) dX6_perform_123 rfl ?_
    refine zJ_zret rfl (by decide) dX6_perform_124 ?_
    exact ⟨_, I, rfl, rfl, rfl, fX_rfl, hR⟩
end ZPerform
