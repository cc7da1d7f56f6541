/-! ===== the reference: shedding, rounds ===== -/
section ZRefH
variable {l : Launch} {Xi : zXi} {d : Nat} {I : zI} {g : zG}
def rS (a : Nat) (I J : zI) : Prop := ∀ c, c ≠ a → c ≠ 450 → c ≠ 451 → c ≠ 557 → c ≠ 558 → c ≠ 559 → J c = I c
theorem rS_rfl {a : Nat} : rS a I I := fun _ _ _ _ _ _ _ => rfl
theorem rS_trans {a : Nat} {J K : zI} (h : rS a I J) (h2 : rS a J K) : rS a I K := fun c q1 q2 q3 q4 q5 q6 => (h2 c q1 q2 q3 q4 q5 q6).trans (h c q1 q2 q3 q4 q5 q6)
theorem rS_rH {a : Nat} {J : zI} (h : rH a I J) : rS a I J := fun c q1 q2 q3 q4 q5 _ => h c q1 q2 q3 q4 q5
theorem rS_on {a : Nat} {J : zI} (h : fOn a I J) : rS a I J := fun c q1 _ _ _ _ _ => h c q1
theorem rB_rS {a : Nat} {J : zI} {b : zWo} (h : rB I b) (haa : a = 533 ∨ a = 534 ∨ a = 535) (hf : rS a I J) : rB J b := rB_of h (by rw [hf 74 (by omega) (by decide) (by decide) (by decide) (by decide) (by decide)]) (fun c hc => hf c (by omega) (by omega) (by omega) (by omega) (by omega) (by omega))
def styB (b : zWo) (R : rwT) (n p : Nat) : Bool := tin R n p && clrM b R n 64 (some p)
def shdN (b : zWo) (R : rwT) (n m : Nat) : rwT := fun k => if n * 64 ≤ k ∧ k < n * 64 + m ∧ styB b R n (k - n * 64) = false then -1 else R k
theorem shd_tea {b : zWo} {R : rwT} {n : Nat} (hr : bpn b n 0 < 64) : upd (shdN b R n 64) (n * 64 + bpn b n 0) 4 = teaM b R n := by
  unfold teaM
  funext k
  by_cases z : k = n * 64 + bpn b n 0
  · rw [z, upd_at, upd_at]
  · rw [upd_ne z, upd_ne z]
    unfold shdN
    by_cases z2 : n * 64 ≤ k ∧ k < n * 64 + 64
    · have e : kepM b R n (k - n * 64) = styB b R n (k - n * 64) := by
        unfold kepM styB
        rw [decide_eq_false (by omega), Bool.false_or]
      rw [e]
    · rw [if_neg (fun h => z2 ⟨h.1, h.2.1⟩), if_neg (fun h => z2 ⟨h.1, h.2.1⟩)]
set_option maxHeartbeats 1000000 in
theorem m_sheds (hl : l.stackTraces = false) (hd : 6 ≤ d) (hs : zSt g) {b : zWo} {R : rwT} (hB : rB I b) {a n : Nat} (ha : zAr g a 519) (haa : a = 533 ∨ a = 534 ∨ a = 535) (hR : rRow I a b R) (hok : okR b R) (hn : n < bN b) (hpc : 0 < bpc b n) : zEi l Xi mX13_sheds d [.ref 74, .ref a, .int (nI n)] I g (fun v J => v = cntF (tin (teaM b R n) n) 64 ∧ rS a I J ∧ rRow J a b (teaM b R n)) := by
  refine zC_of hl rfl rfl rfl (Nat.le_of_ble_eq_true rfl) (zav_r (zSt_ob hs 74 13 rfl).1 (zav_r ha.1 (zav_i zav_0))) ?_
  have hb := hB.1
  have hN6 := hb.2.2.2.2.1
  have hr0 : bpn b n 0 < 64 := (hb.2.2.2.2.2.2.1 n 0 (by omega) hpc).1
  obtain ⟨post, hpost⟩ : ∃ post : zR → zH → Prop, post = (fun r' h' => ∃ x I', r' = .inl (some (.int x)) ∧ h' = (I', g) ∧ x = cntF (tin (teaM b R n) n) 64 ∧ rS a I I' ∧ rRow I' a b (teaM b R n)) := ⟨_, rfl⟩
  rw [← hpost]
  have last : ∀ (J : zI), rS a I J → rRow J a b (teaM b R n) → zJ l Xi mX13_sheds d 0 0 101 [some (.ref 74), some (.ref a), some (.int (nI n)), some (.int (nI 0)), none] [] (J, g) post := by
    intro J hJ hRJ
    have loop : ∀ m p, p + m = 64 → zJ l Xi mX13_sheds d 0 0 104 [some (.ref 74), some (.ref a), some (.int (nI n)), some (.int (cntF (tin (teaM b R n) n) p)), some (.int (nI p))] [] (J, g) post := by
      intro m
      induction m with
      | zero =>
        intro p hp
        obtain rfl : p = 64 := by omega
        refine zJ_iload dX13_sheds_104 rfl ?_
        refine zJ_bipush (v := nI 64) dX13_sheds_106 rfl ?_
        refine zJ_icmp_ge 135 dX13_sheds_108 (by decide) (fun _ => ?_) (fun c108 => absurd (nI_le (by omega) (by omega)) c108)
        refine zJ_iload_n dX13_sheds_135 rfl ?_
        refine zJ_iret rfl dX13_sheds_136 ?_
        rw [hpost]
        exact ⟨_, J, rfl, rfl, rfl, hJ, hRJ⟩
      | succ m ih =>
        intro p hp
        refine zJ_iload dX13_sheds_104 rfl ?_
        refine zJ_bipush (v := nI 64) dX13_sheds_106 rfl ?_
        refine zJ_icmp_ge 135 dX13_sheds_108 (by decide) (fun c108 => absurd c108 (nI_ge (by omega) (by omega))) (fun _ => ?_)
        refine zJ_iload_n dX13_sheds_111 rfl ?_
        refine zJ_aload_n dX13_sheds_112 rfl ?_
        refine zJ_iload_n dX13_sheds_113 rfl ?_
        refine zJ_iload dX13_sheds_114 rfl ?_
        refine zP_callSi [_, _, _] _ ls_X13_287 (k_isIn (d := d - 1) hl (by omega) ha (by omega) (by omega)) rfl (by omega) (Nat.le_of_ble_eq_true rfl) rfl dX13_sheds_116 ?_
        refine zJ_if_eq 126 dX13_sheds_119 (by decide) (fun c119 => ?_) (fun c119 => ?_)
        · replace c119 := zb0.mp c119
          refine zJ_iconst (v := nI 0) dX13_sheds_126 rfl ?_
          refine zJ_iadd dX13_sheds_127 ?_
          refine zJ_istore_m 3 dX13_sheds_128 rfl (Nat.le_of_ble_eq_true rfl) (by decide) ?_
          refine zJ_iinc1 dX13_sheds_129 rfl (by decide) ?_
          refine zJ_goto 104 dX13_sheds_132 (by decide) ?_
          rw [r_tin hRJ (by omega) (by omega)] at c119
          refine zJ_eq ?_ rfl rfl (ih (p + 1) (by omega))
          simp [cntF, lp, c119, nI1, nI0]
        · replace c119 := zb1.mp c119
          refine zJ_iconst (v := nI 1) dX13_sheds_122 rfl ?_
          refine zJ_goto 127 dX13_sheds_123 (by decide) ?_
          refine zJ_iadd dX13_sheds_127 ?_
          refine zJ_istore_m 3 dX13_sheds_128 rfl (Nat.le_of_ble_eq_true rfl) (by decide) ?_
          refine zJ_iinc1 dX13_sheds_129 rfl (by decide) ?_
          refine zJ_goto 104 dX13_sheds_132 (by decide) ?_
          rw [r_tin hRJ (by omega) (by omega)] at c119
          refine zJ_eq ?_ rfl rfl (ih (p + 1) (by omega))
          simp [cntF, lp, c119, nI1, nI0]
    refine zJ_iconst (v := nI 0) dX13_sheds_101 rfl ?_
    refine zJ_istore dX13_sheds_102 (Nat.le_of_ble_eq_true rfl) (by decide) ?_
    exact loop 64 0 (by omega)
  have mid : ∀ (J1 : zI), rS a I J1 → rRow J1 a b R → (∀ q, q < 64 → J1 559 q = if styB b R n q then 1 else 0) → zJ l Xi mX13_sheds d 0 0 51 [some (.ref 74), some (.ref a), some (.int (nI n)), some (.int (nI 0)), none] [] (J1, g) post := by
    intro J1 hJ1 hR1 hst
    have loop : ∀ m p, p + m = 64 → ∀ (J : zI), (fOn a J1 J ∧ rRow J a b (shdN b R n p)) → zJ l Xi mX13_sheds d 0 0 54 [some (.ref 74), some (.ref a), some (.int (nI n)), some (.int (nI 0)), some (.int (nI p))] [] (J, g) post := by
      intro m
      induction m with
      | zero =>
        intro p hp J hI
        obtain rfl : p = 64 := by omega
        refine zJ_iload dX13_sheds_54 rfl ?_
        refine zJ_bipush (v := nI 64) dX13_sheds_56 rfl ?_
        refine zJ_icmp_ge 86 dX13_sheds_58 (by decide) (fun _ => ?_) (fun c58 => absurd (nI_le (by omega) (by omega)) c58)
        have hBJ : rB J b := rB_rS hB haa (rS_trans hJ1 (rS_on hI.1))
        refine zJ_aload_n dX13_sheds_86 rfl ?_
        refine zJ_iload_n dX13_sheds_87 rfl ?_
        refine zJ_aload_n dX13_sheds_88 rfl ?_
        refine zP_getr lf_X13_46 (zSt_ob hs 74 13 rfl) rfl (zSt_rf hs 74 19 103 rfl) dX13_sheds_89 ?_
        refine zJ_iload_n dX13_sheds_92 rfl ?_
        refine zP_rowK (k := n) (zSt_g103 hs) (by omega) (by decide) dX13_sheds_93 ?_
        refine zJ_iconst (v := nI 0) dX13_sheds_94 rfl ?_
        refine zP_iald (zGr_ar (zSt_g103 hs) (i := n) (by omega)) (by first | assumption | with_reducible exact vp_in_nI (by omega) (by omega) | (simp (disch := omega) only [nI_add, pk_mul, pk_sub, pk_div, pk_rem, nI_clamp]; with_reducible exact vp_in_nI (by omega) (by omega))) dX13_sheds_95 ?_
        rw [nI_clamp (by omega), hBJ.2.2.2.2.1 n 0 hn hpc]
        refine zP_callSi [_, _] _ ls_X13_284 (k_treeOf (d := d - 1) hl (by omega)) rfl (by omega) (Nat.le_of_ble_eq_true rfl) rfl dX13_sheds_96 ?_
        refine zJ_iconst (v := nI 4) dX13_sheds_99 rfl ?_
        refine zP_iast ha (by first | assumption | with_reducible exact vp_in_nI (by omega) (by omega) | (simp (disch := omega) only [nI_add, pk_mul, pk_sub, pk_div, pk_rem, nI_clamp]; with_reducible exact vp_in_nI (by omega) (by omega))) dX13_sheds_100 ?_
        rw [nI_clamp (by omega)]
        refine zJ_back (zle_r (zle_r (zle_r (zle_r (zle_n zle_0))))) rfl (last _ (rS_trans hJ1 (rS_trans (rS_on hI.1) (fun c h1 _ _ _ _ _ => zup_row h1))) ?_)
        rw [← shd_tea hr0]
        exact rRow_upd hI.2 rfl (by omega)
      | succ m ih =>
        intro p hp J hI
        refine zJ_iload dX13_sheds_54 rfl ?_
        refine zJ_bipush (v := nI 64) dX13_sheds_56 rfl ?_
        refine zJ_icmp_ge 86 dX13_sheds_58 (by decide) (fun c58 => absurd c58 (nI_ge (by omega) (by omega))) (fun _ => ?_)
        refine zJ_aload_n dX13_sheds_61 rfl ?_
        refine zP_getr lf_X13_91 (zSt_ob hs 74 13 rfl) rfl (zSt_rf hs 74 42 559 rfl) dX13_sheds_62 ?_
        refine zJ_iload dX13_sheds_65 rfl ?_
        refine zP_zald (zSt_bo hs 559 64 rfl) (by first | assumption | with_reducible exact vp_in_nI (by omega) (by omega) | (simp (disch := omega) only [nI_add, pk_mul, pk_sub, pk_div, pk_rem, nI_clamp]; with_reducible exact vp_in_nI (by omega) (by omega))) dX13_sheds_67 ?_
        rw [nI_clamp (by omega), hI.1 559 (by omega), hst p (by omega)]
        refine zJ_if_ne 80 dX13_sheds_68 (by decide) (fun c68 => ?_) (fun c68 => ?_)
        · skip
          refine zJ_iinc1 dX13_sheds_80 rfl (by decide) ?_
          refine zJ_goto 54 dX13_sheds_83 (by decide) ?_
          replace c68 := zb1.mp c68
          refine zJ_back (zle_r (zle_r (zle_r (zle_r (zle_r zle_0))))) rfl (ih (p + 1) (by omega) J ⟨hI.1, rRow_eq hI.2 (fun k hk => ?_) hN6⟩)
          unfold shdN
          by_cases z : k = n * 64 + p
          · rw [z, Nat.add_sub_cancel_left, if_neg (fun h => by rw [c68] at h; exact absurd h.2.2 (by decide)), if_neg (by omega)]
          · by_cases z2 : n * 64 ≤ k ∧ k < n * 64 + p ∧ styB b R n (k - n * 64) = false
            · rw [if_pos ⟨z2.1, by omega, z2.2.2⟩, if_pos z2]
            · rw [if_neg (fun h => z2 ⟨h.1, by omega, h.2.2⟩), if_neg z2]
        · skip
          refine zJ_aload_n dX13_sheds_71 rfl ?_
          refine zJ_iload_n dX13_sheds_72 rfl ?_
          refine zJ_iload dX13_sheds_73 rfl ?_
          refine zP_callSi [_, _] _ ls_X13_284 (k_treeOf (d := d - 1) hl (by omega)) rfl (by omega) (Nat.le_of_ble_eq_true rfl) rfl dX13_sheds_75 ?_
          refine zJ_iconst (v := -1) dX13_sheds_78 rfl ?_
          refine zP_iast ha (by first | assumption | with_reducible exact vp_in_nI (by omega) (by omega) | (simp (disch := omega) only [nI_add, pk_mul, pk_sub, pk_div, pk_rem, nI_clamp]; with_reducible exact vp_in_nI (by omega) (by omega))) dX13_sheds_79 ?_
          refine zJ_iinc1 dX13_sheds_80 rfl (by decide) ?_
          refine zJ_goto 54 dX13_sheds_83 (by decide) ?_
          replace c68 := zb0.mp c68
          rw [nI_clamp (by omega)]
          refine zJ_back (zle_r (zle_r (zle_r (zle_r (zle_r zle_0))))) rfl (ih (p + 1) (by omega) _ ⟨fun c hc => (zup_row hc).trans (hI.1 c hc), rRow_eq (rRow_upd hI.2 rfl (by omega)) (fun k hk => ?_) hN6⟩)
          unfold shdN
          by_cases z : k = n * 64 + p
          · rw [z, upd_at, Nat.add_sub_cancel_left, if_pos ⟨by omega, by omega, c68⟩]
          · rw [upd_ne z]
            by_cases z2 : n * 64 ≤ k ∧ k < n * 64 + p ∧ styB b R n (k - n * 64) = false
            · rw [if_pos ⟨z2.1, by omega, z2.2.2⟩, if_pos z2]
            · rw [if_neg (fun h => z2 ⟨h.1, by omega, h.2.2⟩), if_neg z2]
    refine zJ_iconst (v := nI 0) dX13_sheds_51 rfl ?_
    refine zJ_istore dX13_sheds_52 (Nat.le_of_ble_eq_true rfl) (by decide) ?_
    exact loop 64 0 (by omega) J1 ⟨fun _ _ => rfl, rRow_eq hR1 (fun k hk => by unfold shdN; rw [if_neg (by omega)]) hN6⟩
  have first : ∀ m p, p + m = 64 → ∀ (J : zI), (fOn 559 I J ∧ ∀ q, q < p → J 559 q = if styB b R n q then 1 else 0) → zJ l Xi mX13_sheds d 0 0 5 [some (.ref 74), some (.ref a), some (.int (nI n)), some (.int (nI 0)), some (.int (nI p))] [] (J, g) post := by
    intro m
    induction m with
    | zero =>
      intro p hp J hI
      obtain rfl : p = 64 := by omega
      refine zJ_iload dX13_sheds_5 rfl ?_
      refine zJ_bipush (v := nI 64) dX13_sheds_7 rfl ?_
      refine zJ_icmp_ge 51 dX13_sheds_9 (by decide) (fun _ => ?_) (fun c9 => absurd (nI_le (by omega) (by omega)) c9)
      exact zJ_back (zle_r (zle_r (zle_r (zle_r (zle_n zle_0))))) rfl (mid J (fun c q1 q2 q3 q4 q5 q6 => hI.1 c q6) (rRow_of hR (hI.1 a (by omega))) hI.2)
    | succ m ih =>
      intro p hp J hI
      have hRJ : rRow J a b R := rRow_of hR (hI.1 a (by omega))
      have hBJ : rB J b := rB_of hB (by rw [hI.1 74 (by decide)]) (fun c hc => hI.1 c (by omega))
      have hta : tin (J a) n p = tin R n p := r_tin hRJ (by omega) (by omega)
      have put : ∀ x : Int32, (x = if styB b R n p then 1 else 0) → fOn 559 I (zup J 559 p x) ∧ ∀ q, q < p + 1 → zup J 559 p x 559 q = if styB b R n q then 1 else 0 := fun x hx => ⟨fun c hc => (zup_row hc).trans (hI.1 c hc), fun q hq => by rw [zup_same]; by_cases z : q = p; (subst z; rw [upd_at]; exact hx); (rw [upd_ne z]; exact hI.2 q (by omega))⟩
      refine zJ_iload dX13_sheds_5 rfl ?_
      refine zJ_bipush (v := nI 64) dX13_sheds_7 rfl ?_
      refine zJ_icmp_ge 51 dX13_sheds_9 (by decide) (fun c9 => absurd c9 (nI_ge (by omega) (by omega))) (fun _ => ?_)
      refine zJ_aload_n dX13_sheds_12 rfl ?_
      refine zP_getr lf_X13_91 (zSt_ob hs 74 13 rfl) rfl (zSt_rf hs 74 42 559 rfl) dX13_sheds_13 ?_
      refine zJ_iload dX13_sheds_16 rfl ?_
      refine zJ_aload_n dX13_sheds_18 rfl ?_
      refine zJ_iload_n dX13_sheds_19 rfl ?_
      refine zJ_iload dX13_sheds_20 rfl ?_
      refine zP_callSi [_, _, _] _ ls_X13_287 (k_isIn (d := d - 1) hl (by omega) ha (by omega) (by omega)) rfl (by omega) (Nat.le_of_ble_eq_true rfl) rfl dX13_sheds_22 ?_
      refine zJ_if_eq 43 dX13_sheds_25 (by decide) (fun c25 => ?_) (fun c25 => ?_)
      · replace c25 := zb0.mp c25
        refine zJ_iconst (v := nI 0) dX13_sheds_43 rfl ?_
        refine zP_zast (zSt_bo hs 559 64 rfl) (by first | assumption | with_reducible exact vp_in_nI (by omega) (by omega) | (simp (disch := omega) only [nI_add, pk_mul, pk_sub, pk_div, pk_rem, nI_clamp]; with_reducible exact vp_in_nI (by omega) (by omega))) (by first | exact Or.inl rfl | exact Or.inr rfl) dX13_sheds_44 ?_
        refine zJ_iinc1 dX13_sheds_45 rfl (by decide) ?_
        refine zJ_goto 5 dX13_sheds_48 (by decide) ?_
        rw [hta] at c25
        rw [nI_clamp (by omega)]
        exact zJ_back (zle_r (zle_r (zle_r (zle_r (zle_r zle_0))))) rfl (ih (p + 1) (by omega) _ (put _ (by unfold styB; rw [c25]; rfl)))
      · replace c25 := zb1.mp c25
        refine zJ_aload_n dX13_sheds_28 rfl ?_
        refine zJ_aload_n dX13_sheds_29 rfl ?_
        refine zJ_iload_n dX13_sheds_30 rfl ?_
        refine zJ_iload dX13_sheds_31 rfl ?_
        refine zP_callVi [_, _, _] _ lv_X13_338 (m_isFree (d := d - 1) hl (by omega) hs hBJ ha hRJ hok hn (by omega) (hta ▸ c25)) (zSt_ob hs 74 13 rfl) rfl (by omega) (Nat.le_of_ble_eq_true rfl) rfl dX13_sheds_33 ?_
        refine zJ_if_eq 43 dX13_sheds_36 (by decide) (fun c36 => ?_) (fun c36 => ?_)
        · replace c36 := zb0.mp c36
          refine zJ_iconst (v := nI 0) dX13_sheds_43 rfl ?_
          refine zP_zast (zSt_bo hs 559 64 rfl) (by first | assumption | with_reducible exact vp_in_nI (by omega) (by omega) | (simp (disch := omega) only [nI_add, pk_mul, pk_sub, pk_div, pk_rem, nI_clamp]; with_reducible exact vp_in_nI (by omega) (by omega))) (by first | exact Or.inl rfl | exact Or.inr rfl) dX13_sheds_44 ?_
          refine zJ_iinc1 dX13_sheds_45 rfl (by decide) ?_
          refine zJ_goto 5 dX13_sheds_48 (by decide) ?_
          rw [hta] at c25
          rw [nI_clamp (by omega)]
          exact zJ_back (zle_r (zle_r (zle_r (zle_r (zle_r zle_0))))) rfl (ih (p + 1) (by omega) _ (put _ (by unfold styB; rw [c25, c36]; rfl)))
        · replace c36 := zb1.mp c36
          refine zJ_iconst (v := nI 1) dX13_sheds_39 rfl ?_
          refine zJ_goto 44 dX13_sheds_40 (by decide) ?_
          refine zP_zast (zSt_bo hs 559 64 rfl) (by first | assumption | with_reducible exact vp_in_nI (by omega) (by omega) | (simp (disch := omega) only [nI_add, pk_mul, pk_sub, pk_div, pk_rem, nI_clamp]; with_reducible exact vp_in_nI (by omega) (by omega))) (by first | exact Or.inl rfl | exact Or.inr rfl) dX13_sheds_44 ?_
          refine zJ_iinc1 dX13_sheds_45 rfl (by decide) ?_
          refine zJ_goto 5 dX13_sheds_48 (by decide) ?_
          rw [hta] at c25
          rw [nI_clamp (by omega)]
          exact zJ_back (zle_r (zle_r (zle_r (zle_r (zle_r zle_0))))) rfl (ih (p + 1) (by omega) _ (put _ (by unfold styB; rw [c25, c36]; rfl)))
  refine zJ_iconst (v := nI 0) dX13_sheds_0 rfl ?_
  refine zJ_istore_m 3 dX13_sheds_1 rfl (Nat.le_of_ble_eq_true rfl) (by decide) ?_
  refine zJ_iconst (v := nI 0) dX13_sheds_2 rfl ?_
  refine zJ_istore dX13_sheds_3 (Nat.le_of_ble_eq_true rfl) (by decide) ?_
  exact first 64 0 (by omega) I ⟨fun _ _ => rfl, fun q hq => absurd hq (Nat.not_lt_zero _)⟩
end ZRefH
