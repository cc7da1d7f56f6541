/-! ===== the reference: a step is done; children ===== -/
section ZRefK
variable {l : Launch} {Xi : zXi} {d : Nat} {I : zI} {g : zG}
/-- a step's row holds a token -/
def stR2 (I : zI) (c : Nat) (t : tok) : Prop := I c 0 = nI t.1 ∧ (1 ≤ t.1 ∧ t.1 ≤ 3 → I c 1 = nI t.2.1) ∧ (t.1 = 3 → I c 2 = nI t.2.2) ∧ (t.1 = 4 → I c 1 = nI (t.2.2 * 8 + t.2.1)) ∧ (t.1 = 5 → I c 1 = nI t.2.1)
theorem m_does (hl : l.stackTraces = false) (hd : 9 ≤ d) (hs : zSt g) {b : zWo} {R : rwT} (hB : rB I b) {a c : Nat} {t : tok} (ha : zAr g a 519) (haa : a = 533 ∨ a = 534 ∨ a = 535) (hc : zAr g c 4) (hR : rRow I a b R) (hok : okR b R) (hg : gnOk b) (ht : tkOk (bN b) (bC b) (bR b) t) (hst : stR2 I c t) : zEi l Xi mX13_does d [.ref 74, .ref a, .ref c] I g (fun x J => x = (if perB b R t.1 t.2.1 t.2.2 then 1 else 0) ∧ rS a I J ∧ rRow J a b (perM b R t.1 t.2.1 t.2.2)) := by
  refine zC_of hl rfl rfl rfl (Nat.le_of_ble_eq_true rfl) (zav_r (zSt_ob hs 74 13 rfl).1 (zav_r ha.1 (zav_r hc.1 zav_0))) ?_
  obtain ⟨k, f, t⟩ := t
  obtain ⟨s0, s1, s2, s3, s4⟩ := hst
  obtain ⟨t0, t1, t2, t3, t4⟩ := ht
  simp only [] at s0 s1 s2 s3 s4 t0 t1 t2 t3 t4 ⊢
  have hb := hB.1
  have hN6 := hb.2.2.2.2.1
  have hC8 := hb.2.1
  have hR8 := hb.2.2.2.1
  have e0 : I c (nI 0).toNatClampNeg = nI k := by rw [nI_clamp (by omega)]; exact s0
  have hk : k = 0 ∨ k = 1 ∨ k = 2 ∨ k = 3 ∨ k = 4 ∨ k = 5 := by omega
  rcases hk with rfl | rfl | rfl | rfl | rfl | rfl
  · have eB : perB b R 0 f t = decide (R 518 < nI 400) := rfl
    have eM : perM b R 0 f t = if R 518 < nI 400 then rndM b R else R := rfl
    rw [eB, eM]
    refine zJ_aload_n dX13_does_0 rfl ?_
    refine zJ_iconst (v := nI 0) dX13_does_1 rfl ?_
    refine zP_iald hc (by first | assumption | with_reducible exact vp_in_nI (by omega) (by omega) | (simp (disch := omega) only [nI_add, pk_mul, pk_sub, pk_div, pk_rem, nI_clamp]; with_reducible exact vp_in_nI (by omega) (by omega))) dX13_does_2 ?_
    rw [e0]
    refine zJ_tabIn 36 dX13_does_3 (by decide) (by decide) rfl (by decide) ?_
    refine zJ_aload_n dX13_does_36 rfl ?_
    refine zJ_sipush (v := nI 518) dX13_does_37 rfl ?_
    refine zP_iald ha (by first | assumption | with_reducible exact vp_in_nI (by omega) (by omega) | (simp (disch := omega) only [nI_add, pk_mul, pk_sub, pk_div, pk_rem, nI_clamp]; with_reducible exact vp_in_nI (by omega) (by omega))) dX13_does_40 ?_
    rw [nI_clamp (by omega), hR.2.2]
    refine zJ_sipush (v := nI 400) dX13_does_41 rfl ?_
    refine zJ_icmp_lt 49 dX13_does_44 (by decide) (fun c44 => ?_) (fun c44 => ?_)
    · skip
      refine zJ_aload_n dX13_does_49 rfl ?_
      refine zJ_aload_n dX13_does_50 rfl ?_
      refine zP_ecallVv [_] _ lv_X13_347 (m_roundEnds (d := d - 1) hl (by omega) hs hB ha haa hR hok hg) (zSt_ob hs 74 13 rfl) rfl (by omega) (Nat.le_of_ble_eq_true rfl) rfl dX13_does_51 (fun J h => ?_)
      refine zJ_iconst (v := nI 1) dX13_does_54 rfl ?_
      refine zJ_zret rfl (by decide) dX13_does_55 ?_
      exact ⟨_, J, rfl, rfl, by rw [decide_eq_true c44]; rfl, h.1, by rw [if_pos c44]; exact h.2⟩
    · skip
      refine zJ_iconst (v := nI 0) dX13_does_47 rfl ?_
      refine zJ_zret rfl (by decide) dX13_does_48 ?_
      exact ⟨_, I, rfl, rfl, by rw [decide_eq_false c44]; rfl, rS_rfl, by rw [if_neg c44]; exact hR⟩
  · have e1 : I c (nI 1).toNatClampNeg = nI f := by rw [nI_clamp (by omega)]; exact s1 (by omega)
    have hf := t1 (by omega)
    refine zJ_aload_n dX13_does_0 rfl ?_
    refine zJ_iconst (v := nI 0) dX13_does_1 rfl ?_
    refine zP_iald hc (by first | assumption | with_reducible exact vp_in_nI (by omega) (by omega) | (simp (disch := omega) only [nI_add, pk_mul, pk_sub, pk_div, pk_rem, nI_clamp]; with_reducible exact vp_in_nI (by omega) (by omega))) dX13_does_2 ?_
    rw [e0]
    refine zJ_tabIn 56 dX13_does_3 (by decide) (by decide) rfl (by decide) ?_
    refine zJ_aload_n dX13_does_56 rfl ?_
    refine zJ_aload_n dX13_does_57 rfl ?_
    refine zJ_aload_n dX13_does_58 rfl ?_
    refine zJ_iconst (v := nI 1) dX13_does_59 rfl ?_
    refine zP_iald hc (by first | assumption | with_reducible exact vp_in_nI (by omega) (by omega) | (simp (disch := omega) only [nI_add, pk_mul, pk_sub, pk_div, pk_rem, nI_clamp]; with_reducible exact vp_in_nI (by omega) (by omega))) dX13_does_60 ?_
    rw [e1]
    refine zP_ecallVi [_, _] _ lv_X13_351 (m_laysOne (d := d - 1) hl (by omega) hs hB ha haa hR hok hf) (zSt_ob hs 74 13 rfl) rfl (by omega) (Nat.le_of_ble_eq_true rfl) rfl dX13_does_61 (fun x J h => ?_)
    obtain ⟨rfl, h1, h2⟩ := h
    refine zJ_zret rfl zbr dX13_does_64 ?_
    exact ⟨_, J, rfl, rfl, rfl, rS_rH h1, h2⟩
  · have e1 : I c (nI 1).toNatClampNeg = nI f := by rw [nI_clamp (by omega)]; exact s1 (by omega)
    have hf := t1 (by omega)
    refine zJ_aload_n dX13_does_0 rfl ?_
    refine zJ_iconst (v := nI 0) dX13_does_1 rfl ?_
    refine zP_iald hc (by first | assumption | with_reducible exact vp_in_nI (by omega) (by omega) | (simp (disch := omega) only [nI_add, pk_mul, pk_sub, pk_div, pk_rem, nI_clamp]; with_reducible exact vp_in_nI (by omega) (by omega))) dX13_does_2 ?_
    rw [e0]
    refine zJ_tabIn 65 dX13_does_3 (by decide) (by decide) rfl (by decide) ?_
    refine zJ_aload_n dX13_does_65 rfl ?_
    refine zJ_aload_n dX13_does_66 rfl ?_
    refine zJ_aload_n dX13_does_67 rfl ?_
    refine zJ_iconst (v := nI 1) dX13_does_68 rfl ?_
    refine zP_iald hc (by first | assumption | with_reducible exact vp_in_nI (by omega) (by omega) | (simp (disch := omega) only [nI_add, pk_mul, pk_sub, pk_div, pk_rem, nI_clamp]; with_reducible exact vp_in_nI (by omega) (by omega))) dX13_does_69 ?_
    rw [e1]
    refine zP_ecallVi [_, _] _ lv_X13_354 (m_rips (d := d - 1) hl (by omega) hs ha hR hN6 (by omega)) (zSt_ob hs 74 13 rfl) rfl (by omega) (Nat.le_of_ble_eq_true rfl) rfl dX13_does_70 (fun x J h => ?_)
    obtain ⟨rfl, h1, h2⟩ := h
    refine zJ_zret rfl zbr dX13_does_73 ?_
    exact ⟨_, J, rfl, rfl, rfl, rS_on h1, h2⟩
  · have e1 : I c (nI 1).toNatClampNeg = nI f := by rw [nI_clamp (by omega)]; exact s1 (by omega)
    have e2 : I c (nI 2).toNatClampNeg = nI t := by rw [nI_clamp (by omega)]; exact s2 rfl
    have hf := t1 (by omega)
    refine zJ_aload_n dX13_does_0 rfl ?_
    refine zJ_iconst (v := nI 0) dX13_does_1 rfl ?_
    refine zP_iald hc (by first | assumption | with_reducible exact vp_in_nI (by omega) (by omega) | (simp (disch := omega) only [nI_add, pk_mul, pk_sub, pk_div, pk_rem, nI_clamp]; with_reducible exact vp_in_nI (by omega) (by omega))) dX13_does_2 ?_
    rw [e0]
    refine zJ_tabIn 74 dX13_does_3 (by decide) (by decide) rfl (by decide) ?_
    refine zJ_aload_n dX13_does_74 rfl ?_
    refine zJ_aload_n dX13_does_75 rfl ?_
    refine zJ_iconst (v := nI 1) dX13_does_76 rfl ?_
    refine zP_iald hc (by first | assumption | with_reducible exact vp_in_nI (by omega) (by omega) | (simp (disch := omega) only [nI_add, pk_mul, pk_sub, pk_div, pk_rem, nI_clamp]; with_reducible exact vp_in_nI (by omega) (by omega))) dX13_does_77 ?_
    rw [e1]
    refine zJ_aload_n dX13_does_78 rfl ?_
    refine zJ_iconst (v := nI 2) dX13_does_79 rfl ?_
    refine zP_iald hc (by first | assumption | with_reducible exact vp_in_nI (by omega) (by omega) | (simp (disch := omega) only [nI_add, pk_mul, pk_sub, pk_div, pk_rem, nI_clamp]; with_reducible exact vp_in_nI (by omega) (by omega))) dX13_does_80 ?_
    rw [e2]
    refine zP_ecallSi [_, _, _] _ ls_X13_357 (m_crits (d := d - 1) hl (by omega) ha hR hf hN6) rfl (by omega) (Nat.le_of_ble_eq_true rfl) rfl dX13_does_81 (fun x J h => ?_)
    obtain ⟨rfl, h1, h2⟩ := h
    refine zJ_zret rfl zbr dX13_does_84 ?_
    exact ⟨_, J, rfl, rfl, rfl, rS_on h1, h2⟩
  · have e1 : I c (nI 1).toNatClampNeg = nI (t * 8 + f) := by rw [nI_clamp (by omega)]; exact s3 rfl
    have hf := t2 rfl
    refine zJ_aload_n dX13_does_0 rfl ?_
    refine zJ_iconst (v := nI 0) dX13_does_1 rfl ?_
    refine zP_iald hc (by first | assumption | with_reducible exact vp_in_nI (by omega) (by omega) | (simp (disch := omega) only [nI_add, pk_mul, pk_sub, pk_div, pk_rem, nI_clamp]; with_reducible exact vp_in_nI (by omega) (by omega))) dX13_does_2 ?_
    rw [e0]
    refine zJ_tabIn 85 dX13_does_3 (by decide) (by decide) rfl (by decide) ?_
    refine zJ_aload_n dX13_does_85 rfl ?_
    refine zJ_aload_n dX13_does_86 rfl ?_
    refine zJ_aload_n dX13_does_87 rfl ?_
    refine zJ_iconst (v := nI 1) dX13_does_88 rfl ?_
    refine zP_iald hc (by first | assumption | with_reducible exact vp_in_nI (by omega) (by omega) | (simp (disch := omega) only [nI_add, pk_mul, pk_sub, pk_div, pk_rem, nI_clamp]; with_reducible exact vp_in_nI (by omega) (by omega))) dX13_does_89 ?_
    rw [e1]
    refine zP_ecallVi [_, _] _ lv_X13_360 (m_blocks (d := d - 1) hl (by omega) hs hB ha hR hok (by omega)) (zSt_ob hs 74 13 rfl) rfl (by omega) (Nat.le_of_ble_eq_true rfl) rfl dX13_does_90 (fun x J h => ?_)
    obtain ⟨rfl, h1, h2⟩ := h
    refine zJ_zret rfl zbr dX13_does_93 ?_
    exact ⟨_, J, rfl, rfl, rfl, rS_on h1, h2⟩
  · have e1 : I c (nI 1).toNatClampNeg = nI f := by rw [nI_clamp (by omega)]; exact s4 rfl
    refine zJ_aload_n dX13_does_0 rfl ?_
    refine zJ_iconst (v := nI 0) dX13_does_1 rfl ?_
    refine zP_iald hc (by first | assumption | with_reducible exact vp_in_nI (by omega) (by omega) | (simp (disch := omega) only [nI_add, pk_mul, pk_sub, pk_div, pk_rem, nI_clamp]; with_reducible exact vp_in_nI (by omega) (by omega))) dX13_does_2 ?_
    rw [e0]
    refine zJ_tabOut 94 dX13_does_3 (by decide) (by decide) ?_
    refine zJ_aload_n dX13_does_94 rfl ?_
    refine zJ_aload_n dX13_does_95 rfl ?_
    refine zJ_iconst (v := nI 1) dX13_does_96 rfl ?_
    refine zP_iald hc (by first | assumption | with_reducible exact vp_in_nI (by omega) (by omega) | (simp (disch := omega) only [nI_add, pk_mul, pk_sub, pk_div, pk_rem, nI_clamp]; with_reducible exact vp_in_nI (by omega) (by omega))) dX13_does_97 ?_
    rw [e1]
    refine zP_ecallSv [_, _] _ ls_X13_363 (m_eases (d := d - 1) hl (by omega) ha hR hN6) rfl (by omega) (Nat.le_of_ble_eq_true rfl) rfl dX13_does_98 (fun J h => ?_)
    refine zJ_iconst (v := nI 1) dX13_does_101 rfl ?_
    refine zJ_zret rfl (by decide) dX13_does_102 ?_
    exact ⟨_, J, rfl, rfl, rfl, rS_on h.1, h.2⟩
end ZRefK
