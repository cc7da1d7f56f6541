/-! ===== the reference: leaves, forks, depth ===== -/
section ZRefM
variable {l : Launch} {Xi : zXi} {d : Nat} {I : zI} {g : zG}
theorem ch_out {b : zWo} {R : rwT} {n p : Nat} (hok : okR b R) (hn : n < 6) (ht : tin R n p = false) : chM b R n p = 0 := by
  refine cB_none (fun q hq => decide_eq_false (fun z => ?_))
  have htq : tin R n q = true := by
    cases e : tin R n q with
    | true => rfl
    | false => unfold parM at z; rw [if_pos (Or.inl (Classical.not_not.mp (of_decide_eq_false e)))] at z; cases z
  obtain ⟨dep, hdp⟩ := hok.1 n hn
  have hne : q ≠ bpn b n 0 := fun h => by rw [par_root ((root_way hdp hq htq).mpr h)] at z; cases z
  obtain ⟨v, e, w1, w2, w3, w4, w5, w6⟩ := par_of hdp hq htq hne
  rw [w6] at z; cases z
  rw [ht] at w4; cases w4
def treV (b : zWo) (R : rwT) (n w : Nat) : Int32 := if w = 7 then sLeaf b R n else if w = 8 then sFork b R n else sDeep b R n
set_option maxHeartbeats 1000000 in
theorem m_ofTree (hl : l.stackTraces = false) (hd : 5 ≤ d) (hs : zSt g) {b : zWo} {R : rwT} (hB : rB I b) {n w : Nat} (hR : rRow I 533 b R) (hok : okR b R) (hn : n < bN b) (hw : w < 100) : zD l Xi mX13_ofTree d [.ref 74, .int (nI n), .int (nI w)] I g (some (.int (treV b R n w))) I := by
  refine zC_of hl rfl rfl rfl (Nat.le_of_ble_eq_true rfl) (zav_r (zSt_ob hs 74 13 rfl).1 (zav_i (zav_i zav_0))) ?_
  have hb := hB.1
  have hN6 := hb.2.2.2.2.1
  have ha := zSt_ar hs 533 519 rfl
  unfold treV sLeaf sFork sDeep
  obtain ⟨fl, hfl⟩ : ∃ f : Nat → Bool, f = fun p => tin R n p && decide (chM b R n p = 0) := ⟨_, rfl⟩
  obtain ⟨ff, hff⟩ : ∃ f : Nat → Bool, f = fun p => decide (2 ≤ chM b R n p) := ⟨_, rfl⟩
  obtain ⟨fd, hfd⟩ : ∃ f : Nat → Int32, f = fun p => nI (stM b R n p) := ⟨_, rfl⟩
  rw [← hfl, ← hff, ← hfd]
  have loop : ∀ m p, p + m = 64 → zJ l Xi mX13_ofTree d 0 0 11 [some (.ref 74), some (.int (nI n)), some (.int (nI w)), some (.int (cntF fl p)), some (.int (cntF ff p)), some (.int (maxI fd p)), some (.int (nI p))] [] (I, g) (fun r' h' => r' = .inl (some (.int (if w = 7 then cntF fl 64 else if w = 8 then cntF ff 64 else maxI fd 64))) ∧ h' = (I, g)) := by
    intro m
    induction m with
    | zero =>
      intro p hp
      obtain rfl : p = 64 := by omega
      refine zJ_iload dX13_ofTree_11 rfl ?_
      refine zJ_bipush (v := nI 64) dX13_ofTree_13 rfl ?_
      refine zJ_icmp_ge 97 dX13_ofTree_15 (by decide) (fun _ => ?_) (fun c15 => absurd (nI_le (by omega) (by omega)) c15)
      refine zJ_iload_n dX13_ofTree_97 rfl ?_
      refine zJ_bipush (v := nI 7) dX13_ofTree_98 rfl ?_
      refine zJ_icmp_ne 107 dX13_ofTree_100 (by decide) (fun c100 => ?_) (fun c100 => ?_)
      · skip
        refine zJ_iload_n dX13_ofTree_107 rfl ?_
        refine zJ_bipush (v := nI 8) dX13_ofTree_108 rfl ?_
        refine zJ_icmp_ne 118 dX13_ofTree_110 (by decide) (fun c110 => ?_) (fun c110 => ?_)
        · skip
          refine zJ_iload dX13_ofTree_118 rfl ?_
          refine zJ_iret rfl dX13_ofTree_120 ?_
          have e7 : ¬ w = 7 := fun z => c100 (by rw [z])
          have e8 : ¬ w = 8 := fun z => c110 (by rw [z])
          exact ⟨by rw [if_neg e7, if_neg e8], rfl⟩
        · skip
          refine zJ_iload dX13_ofTree_113 rfl ?_
          refine zJ_goto 120 dX13_ofTree_115 (by decide) ?_
          refine zJ_iret rfl dX13_ofTree_120 ?_
          have e7 : ¬ w = 7 := fun z => c100 (by rw [z])
          have e8 : w = 8 := (nI_eq (by omega) (by omega)).mp c110
          exact ⟨by rw [if_neg e7, if_pos e8], rfl⟩
      · skip
        refine zJ_iload_n dX13_ofTree_103 rfl ?_
        refine zJ_goto 120 dX13_ofTree_104 (by decide) ?_
        refine zJ_iret rfl dX13_ofTree_120 ?_
        have e7 : w = 7 := (nI_eq (by omega) (by omega)).mp c100
        exact ⟨by rw [if_pos e7], rfl⟩
    | succ m ih =>
      intro p hp
      have hta : tin (I 533) n p = tin R n p := r_tin hR (by omega) (by omega)
      have s1 := cntF_succ (f := fl) (p := p)
      have s2 := cntF_succ (f := ff) (p := p)
      have hch : chM b R n p ≤ 64 := cB_le
      have l1 : fl p = (tin R n p && decide (chM b R n p = 0)) := by rw [hfl]
      have l2 : ff p = decide (2 ≤ chM b R n p) := by rw [hff]
      have l3 : fd p = nI (stM b R n p) := by rw [hfd]
      have hins : tin R n p = true → insM b p = true := fun h => by obtain ⟨dep, hdp⟩ := hok.1 n (by omega); exact (hdp p (by omega) h).1
      refine zJ_iload dX13_ofTree_11 rfl ?_
      refine zJ_bipush (v := nI 64) dX13_ofTree_13 rfl ?_
      refine zJ_icmp_ge 97 dX13_ofTree_15 (by decide) (fun c15 => absurd c15 (nI_ge (by omega) (by omega))) (fun _ => ?_)
      refine zJ_aload_n dX13_ofTree_18 rfl ?_
      refine zP_getr lf_X13_70 (zSt_ob hs 74 13 rfl) rfl (zSt_rf hs 74 30 533 rfl) dX13_ofTree_19 ?_
      refine zJ_iload_n dX13_ofTree_22 rfl ?_
      refine zJ_iload dX13_ofTree_23 rfl ?_
      refine zP_callSi [_, _, _] _ ls_X13_287 (k_isIn (d := d - 1) hl (by omega) ha (by omega) (by omega)) rfl (by omega) (Nat.le_of_ble_eq_true rfl) rfl dX13_ofTree_25 ?_
      refine zJ_if_ne 34 dX13_ofTree_28 (by decide) (fun c28 => ?_) (fun c28 => ?_)
      · replace c28 := zb1.mp c28
        refine zJ_iload_n dX13_ofTree_34 rfl ?_
        refine zJ_aload_n dX13_ofTree_35 rfl ?_
        refine zJ_iload_n dX13_ofTree_36 rfl ?_
        refine zJ_iload dX13_ofTree_37 rfl ?_
        refine zP_callVi [_, _] _ lv_X13_409 (m_childrenOf (d := d - 1) hl (by omega) hs hB hR hok hn (by omega) (hins (hta ▸ c28))) (zSt_ob hs 74 13 rfl) rfl (by omega) (Nat.le_of_ble_eq_true rfl) rfl dX13_ofTree_39 ?_
        refine zJ_if_ne 49 dX13_ofTree_42 (by decide) (fun c42 => ?_) (fun c42 => ?_)
        · skip
          refine zJ_iconst (v := nI 0) dX13_ofTree_49 rfl ?_
          refine zJ_iadd dX13_ofTree_50 ?_
          refine zJ_istore_m 3 dX13_ofTree_51 rfl (Nat.le_of_ble_eq_true rfl) (by decide) ?_
          refine zJ_iload dX13_ofTree_52 rfl ?_
          refine zJ_aload_n dX13_ofTree_54 rfl ?_
          refine zJ_iload_n dX13_ofTree_55 rfl ?_
          refine zJ_iload dX13_ofTree_56 rfl ?_
          refine zP_callVi [_, _] _ lv_X13_409 (m_childrenOf (d := d - 1) hl (by omega) hs hB hR hok hn (by omega) (hins (hta ▸ c28))) (zSt_ob hs 74 13 rfl) rfl (by omega) (Nat.le_of_ble_eq_true rfl) rfl dX13_ofTree_58 ?_
          refine zJ_iconst (v := nI 1) dX13_ofTree_61 rfl ?_
          refine zJ_icmp_le 69 dX13_ofTree_62 (by decide) (fun c62 => ?_) (fun c62 => ?_)
          · skip
            refine zJ_iconst (v := nI 0) dX13_ofTree_69 rfl ?_
            refine zJ_iadd dX13_ofTree_70 ?_
            refine zJ_istore dX13_ofTree_71 (Nat.le_of_ble_eq_true rfl) (by decide) ?_
            refine zJ_iload dX13_ofTree_73 rfl ?_
            refine zJ_aload_n dX13_ofTree_75 rfl ?_
            refine zJ_aload_n dX13_ofTree_76 rfl ?_
            refine zP_getr lf_X13_70 (zSt_ob hs 74 13 rfl) rfl (zSt_rf hs 74 30 533 rfl) dX13_ofTree_77 ?_
            refine zJ_iload_n dX13_ofTree_80 rfl ?_
            refine zJ_iload dX13_ofTree_81 rfl ?_
            refine zP_callVi [_, _, _] _ lv_X13_390 (m_stepsOf (d := d - 1) hl (by omega) hs hB ha hR hok hn (by omega) (hta ▸ c28)) (zSt_ob hs 74 13 rfl) rfl (by omega) (Nat.le_of_ble_eq_true rfl) rfl dX13_ofTree_83 ?_
            refine zP_callSi [_, _] _ ls_X13_262 (k_more (d := d - 1) hl (by omega)) rfl (by omega) (Nat.le_of_ble_eq_true rfl) rfl dX13_ofTree_86 ?_
            refine zJ_istore dX13_ofTree_89 (Nat.le_of_ble_eq_true rfl) (by decide) ?_
            refine zJ_iinc1 dX13_ofTree_91 rfl (by decide) ?_
            refine zJ_goto 11 dX13_ofTree_94 (by decide) ?_
            rw [hta] at c28
            have hmx : maxI fd (p + 1) = morI (maxI fd p) (nI (stM b R n p)) := by rw [← l3]; exact mor_max.symm
            have hc0 : ¬ chM b R n p = 0 := fun z => c42 (by rw [z]; rfl)
            have hc2 : ¬ 2 ≤ chM b R n p := by have := (nI_leI (by omega) (by omega)).mp c62; omega
            exact zJ_back (zle_r (zle_r (zle_r (zle_i (by rw [s1, l1, c28, decide_eq_false hc0]; rfl) (zle_i (by rw [s2, l2, decide_eq_false hc2]; rfl) (zle_i (by rw [hmx]) (zle_r zle_0))))))) rfl (ih (p + 1) (by omega))
          · skip
            refine zJ_iconst (v := nI 1) dX13_ofTree_65 rfl ?_
            refine zJ_goto 70 dX13_ofTree_66 (by decide) ?_
            refine zJ_iadd dX13_ofTree_70 ?_
            refine zJ_istore dX13_ofTree_71 (Nat.le_of_ble_eq_true rfl) (by decide) ?_
            refine zJ_iload dX13_ofTree_73 rfl ?_
            refine zJ_aload_n dX13_ofTree_75 rfl ?_
            refine zJ_aload_n dX13_ofTree_76 rfl ?_
            refine zP_getr lf_X13_70 (zSt_ob hs 74 13 rfl) rfl (zSt_rf hs 74 30 533 rfl) dX13_ofTree_77 ?_
            refine zJ_iload_n dX13_ofTree_80 rfl ?_
            refine zJ_iload dX13_ofTree_81 rfl ?_
            refine zP_callVi [_, _, _] _ lv_X13_390 (m_stepsOf (d := d - 1) hl (by omega) hs hB ha hR hok hn (by omega) (hta ▸ c28)) (zSt_ob hs 74 13 rfl) rfl (by omega) (Nat.le_of_ble_eq_true rfl) rfl dX13_ofTree_83 ?_
            refine zP_callSi [_, _] _ ls_X13_262 (k_more (d := d - 1) hl (by omega)) rfl (by omega) (Nat.le_of_ble_eq_true rfl) rfl dX13_ofTree_86 ?_
            refine zJ_istore dX13_ofTree_89 (Nat.le_of_ble_eq_true rfl) (by decide) ?_
            refine zJ_iinc1 dX13_ofTree_91 rfl (by decide) ?_
            refine zJ_goto 11 dX13_ofTree_94 (by decide) ?_
            rw [hta] at c28
            have hmx : maxI fd (p + 1) = morI (maxI fd p) (nI (stM b R n p)) := by rw [← l3]; exact mor_max.symm
            have hc0 : ¬ chM b R n p = 0 := fun z => c42 (by rw [z]; rfl)
            have hc2 : 2 ≤ chM b R n p := Nat.lt_of_not_le (fun z => c62 ((nI_leI (by omega) (by omega)).mpr z))
            exact zJ_back (zle_r (zle_r (zle_r (zle_i (by rw [s1, l1, c28, decide_eq_false hc0]; rfl) (zle_i (by rw [s2, l2, decide_eq_true hc2]; rfl) (zle_i (by rw [hmx]) (zle_r zle_0))))))) rfl (ih (p + 1) (by omega))
        · skip
          refine zJ_iconst (v := nI 1) dX13_ofTree_45 rfl ?_
          refine zJ_goto 50 dX13_ofTree_46 (by decide) ?_
          refine zJ_iadd dX13_ofTree_50 ?_
          refine zJ_istore_m 3 dX13_ofTree_51 rfl (Nat.le_of_ble_eq_true rfl) (by decide) ?_
          refine zJ_iload dX13_ofTree_52 rfl ?_
          refine zJ_aload_n dX13_ofTree_54 rfl ?_
          refine zJ_iload_n dX13_ofTree_55 rfl ?_
          refine zJ_iload dX13_ofTree_56 rfl ?_
          refine zP_callVi [_, _] _ lv_X13_409 (m_childrenOf (d := d - 1) hl (by omega) hs hB hR hok hn (by omega) (hins (hta ▸ c28))) (zSt_ob hs 74 13 rfl) rfl (by omega) (Nat.le_of_ble_eq_true rfl) rfl dX13_ofTree_58 ?_
          refine zJ_iconst (v := nI 1) dX13_ofTree_61 rfl ?_
          refine zJ_icmp_le 69 dX13_ofTree_62 (by decide) (fun c62 => ?_) (fun c62 => ?_)
          · skip
            refine zJ_iconst (v := nI 0) dX13_ofTree_69 rfl ?_
            refine zJ_iadd dX13_ofTree_70 ?_
            refine zJ_istore dX13_ofTree_71 (Nat.le_of_ble_eq_true rfl) (by decide) ?_
            refine zJ_iload dX13_ofTree_73 rfl ?_
            refine zJ_aload_n dX13_ofTree_75 rfl ?_
            refine zJ_aload_n dX13_ofTree_76 rfl ?_
            refine zP_getr lf_X13_70 (zSt_ob hs 74 13 rfl) rfl (zSt_rf hs 74 30 533 rfl) dX13_ofTree_77 ?_
            refine zJ_iload_n dX13_ofTree_80 rfl ?_
            refine zJ_iload dX13_ofTree_81 rfl ?_
            refine zP_callVi [_, _, _] _ lv_X13_390 (m_stepsOf (d := d - 1) hl (by omega) hs hB ha hR hok hn (by omega) (hta ▸ c28)) (zSt_ob hs 74 13 rfl) rfl (by omega) (Nat.le_of_ble_eq_true rfl) rfl dX13_ofTree_83 ?_
            refine zP_callSi [_, _] _ ls_X13_262 (k_more (d := d - 1) hl (by omega)) rfl (by omega) (Nat.le_of_ble_eq_true rfl) rfl dX13_ofTree_86 ?_
            refine zJ_istore dX13_ofTree_89 (Nat.le_of_ble_eq_true rfl) (by decide) ?_
            refine zJ_iinc1 dX13_ofTree_91 rfl (by decide) ?_
            refine zJ_goto 11 dX13_ofTree_94 (by decide) ?_
            rw [hta] at c28
            have hmx : maxI fd (p + 1) = morI (maxI fd p) (nI (stM b R n p)) := by rw [← l3]; exact mor_max.symm
            have hc0 : chM b R n p = 0 := (nI_eq (by omega) (by omega)).mp (show nI (chM b R n p) = nI 0 from c42)
            have hc2 : ¬ 2 ≤ chM b R n p := by have := (nI_leI (by omega) (by omega)).mp c62; omega
            exact zJ_back (zle_r (zle_r (zle_r (zle_i (by rw [s1, l1, c28, decide_eq_true hc0]; rfl) (zle_i (by rw [s2, l2, decide_eq_false hc2]; rfl) (zle_i (by rw [hmx]) (zle_r zle_0))))))) rfl (ih (p + 1) (by omega))
          · skip
            refine zJ_iconst (v := nI 1) dX13_ofTree_65 rfl ?_
            refine zJ_goto 70 dX13_ofTree_66 (by decide) ?_
            refine zJ_iadd dX13_ofTree_70 ?_
            refine zJ_istore dX13_ofTree_71 (Nat.le_of_ble_eq_true rfl) (by decide) ?_
            refine zJ_iload dX13_ofTree_73 rfl ?_
            refine zJ_aload_n dX13_ofTree_75 rfl ?_
            refine zJ_aload_n dX13_ofTree_76 rfl ?_
            refine zP_getr lf_X13_70 (zSt_ob hs 74 13 rfl) rfl (zSt_rf hs 74 30 533 rfl) dX13_ofTree_77 ?_
            refine zJ_iload_n dX13_ofTree_80 rfl ?_
            refine zJ_iload dX13_ofTree_81 rfl ?_
            refine zP_callVi [_, _, _] _ lv_X13_390 (m_stepsOf (d := d - 1) hl (by omega) hs hB ha hR hok hn (by omega) (hta ▸ c28)) (zSt_ob hs 74 13 rfl) rfl (by omega) (Nat.le_of_ble_eq_true rfl) rfl dX13_ofTree_83 ?_
            refine zP_callSi [_, _] _ ls_X13_262 (k_more (d := d - 1) hl (by omega)) rfl (by omega) (Nat.le_of_ble_eq_true rfl) rfl dX13_ofTree_86 ?_
            refine zJ_istore dX13_ofTree_89 (Nat.le_of_ble_eq_true rfl) (by decide) ?_
            refine zJ_iinc1 dX13_ofTree_91 rfl (by decide) ?_
            refine zJ_goto 11 dX13_ofTree_94 (by decide) ?_
            rw [hta] at c28
            have hmx : maxI fd (p + 1) = morI (maxI fd p) (nI (stM b R n p)) := by rw [← l3]; exact mor_max.symm
            have hc0 : chM b R n p = 0 := (nI_eq (by omega) (by omega)).mp (show nI (chM b R n p) = nI 0 from c42)
            have hc2 : 2 ≤ chM b R n p := Nat.lt_of_not_le (fun z => c62 ((nI_leI (by omega) (by omega)).mpr z))
            exact zJ_back (zle_r (zle_r (zle_r (zle_i (by rw [s1, l1, c28, decide_eq_true hc0]; rfl) (zle_i (by rw [s2, l2, decide_eq_true hc2]; rfl) (zle_i (by rw [hmx]) (zle_r zle_0))))))) rfl (ih (p + 1) (by omega))
      · replace c28 := zb0.mp c28
        refine zJ_goto 91 dX13_ofTree_31 (by decide) ?_
        refine zJ_iinc1 dX13_ofTree_91 rfl (by decide) ?_
        refine zJ_goto 11 dX13_ofTree_94 (by decide) ?_
        rw [hta] at c28
        have hc := ch_out hok (by omega) c28
        have hmx : maxI fd (p + 1) = maxI fd p := by rw [maxI_succ, l3, st_out c28]; exact if_pos (show nI 0 ≤ _ from maxI_nn)
        rw [l1, c28] at s1
        rw [l2, hc] at s2
        exact zJ_back (zle_r (zle_r (zle_r (zle_i (by rw [s1]; exact Int32.add_zero _) (zle_i (by rw [s2]; exact Int32.add_zero _) (zle_i (by rw [hmx]) (zle_r zle_0))))))) rfl (ih (p + 1) (by omega))
  refine zJ_iconst (v := nI 0) dX13_ofTree_0 rfl ?_
  refine zJ_istore_m 3 dX13_ofTree_1 rfl (Nat.le_of_ble_eq_true rfl) (by decide) ?_
  refine zJ_iconst (v := nI 0) dX13_ofTree_2 rfl ?_
  refine zJ_istore dX13_ofTree_3 (Nat.le_of_ble_eq_true rfl) (by decide) ?_
  refine zJ_iconst (v := nI 0) dX13_ofTree_5 rfl ?_
  refine zJ_istore dX13_ofTree_6 (Nat.le_of_ble_eq_true rfl) (by decide) ?_
  refine zJ_iconst (v := nI 0) dX13_ofTree_8 rfl ?_
  refine zJ_istore dX13_ofTree_9 (Nat.le_of_ble_eq_true rfl) (by decide) ?_
  exact loop 64 0 (by omega)
end ZRefM
