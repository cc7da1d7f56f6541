/-! ===== Text: numbers, words, the tape ===== -/
section ZText3
variable {l : Launch} {Xi : zXi} {d : Nat} {I : zI} {g : zG}
def dvN (bs : Nat → Nat) (a : Nat) : Nat → Nat
  | 0 => 0
  | k + 1 => 10 * dvN bs a k + (bs (a + k) - 48)
def nuE (bs : Nat → Nat) (L A : Nat) : Nat := sp (dgB bs) L (sk bs L A)
def nuV (bs : Nat → Nat) (L A : Nat) : Nat := dvN bs (sk bs L A) (nuE bs L A - sk bs L A)
def nuX (bs : Nat → Nat) (L A lo hi : Nat) : Option (Nat × Nat) := if nuE bs L A = sk bs L A then some (1, sk bs L A) else if nuV bs L A < lo ∨ hi ≤ nuV bs L A then some (2, sk bs L A) else none
def nrel (v c : Nat) : Prop := (v ≤ 9999 → c = v) ∧ (9999 < v → 9999 < c) ∧ c ≤ 100009
theorem nrel_step {v c t : Nat} (h : nrel v c) (ht : t ≤ 9) : nrel (10 * v + t) (if 9999 < c then c else 10 * c + t) := by
  obtain ⟨h1, h2, h3⟩ := h
  unfold nrel
  by_cases z : 9999 < c
  · rw [if_pos z]
    have : 9999 < v := Nat.lt_of_not_le (fun q => by have := h1 q; omega)
    exact ⟨fun q => by omega, fun _ => z, h3⟩
  · rw [if_neg z]
    have hv : v ≤ 9999 := Nat.le_of_not_lt (fun q => z (h2 q))
    have := h1 hv
    exact ⟨fun _ => by omega, fun _ => by omega, by omega⟩
theorem nI_hi {c hi : Nat} (hc : c ≤ 100009) (hh : hi ≤ 1000) : nI c ≤ nI hi - 1 ↔ c < hi := by
  cases hi with
  | zero =>
    rw [show nI 0 - 1 = -1 from rfl]
    constructor
    · intro z
      exact absurd (Int32.lt_of_lt_of_le (Int32.lt_of_le_of_lt z (show (-1 : Int32) < 0 by decide)) (nI_pos' (n := c) (by omega))) Int32.lt_irrefl
    · intro z; omega
  | succ k => rw [nI_pred, nI_leI (by omega) (by omega)]; omega
set_option maxHeartbeats 1000000 in
theorem k_number (hl : l.stackTraces = false) (hd : 2 ≤ d) (hs : zSt g) {bs : Nat → Nat} {L A F lo hi : Nat} {e : Option (Nat × Nat)} {x y : Int32} (ht : tX I bs L A F e) (hlo : lo ≤ 1000) (hhi : hi ≤ 1000) (hx : x = nI lo) (hy : y = nI hi - 1) : zEi l Xi mX10_number d [.ref 1, .int x, .int y] I g (fun x J => ∃ c, x = nI c ∧ c ≤ 100009 ∧ (nuX bs L A lo hi = none → c = nuV bs L A ∧ lo ≤ c ∧ c < hi) ∧ fT I J ∧ tX J bs L (nuE bs L A) (sk bs L A) (mg e (nuX bs L A lo hi))) := by
  subst hx hy
  refine zC_of hl rfl rfl rfl (Nat.le_of_ble_eq_true rfl) (zav_r (zSt_ob hs 1 10 rfl).1 (zav_i (zav_i zav_0))) ?_
  have hle := tX_le ht
  have hsk := sk_le (bs := bs) hle.1
  have hskg : A ≤ sk bs L A := sp_g
  have sk9 : ∀ {d : Nat}, 1 ≤ d → zEv l Xi mX10_skipBlanks d [.ref 1] I g (fun J => fT I J ∧ tX J bs L (sk bs L A) (sk bs L A) e) := fun h => k_skip hl h hs ht
  have h74 : ∀ J c, fT I J → tX J bs L (nuE bs L A) (sk bs L A) e → nrel (nuV bs L A) c → zJ l Xi mX10_number d 0 0 74 [some (.ref 1), some (.int (nI lo)), some (.int (nI hi - 1)), some (.int (nI c))] [] (J, g) (fun r' h' => ∃ x I', r' = .inl (some (.int x)) ∧ h' = (I', g) ∧ ∃ c, x = nI c ∧ c ≤ 100009 ∧ (nuX bs L A lo hi = none → c = nuV bs L A ∧ lo ≤ c ∧ c < hi) ∧ fT I I' ∧ tX I' bs L (nuE bs L A) (sk bs L A) (mg e (nuX bs L A lo hi))) := by
    intro J c h1 h2 h3
    have hE := (tX_le h2).1
    obtain ⟨r1, r2, r3⟩ := h3
    have hvc : (lo ≤ c ∧ c < hi) → nuV bs L A = c := fun _ => by
      rcases Nat.lt_or_ge 9999 (nuV bs L A) with z | z
      · have := r2 z; omega
      · exact (r1 z).symm
    have hiff : (nuV bs L A < lo ∨ hi ≤ nuV bs L A) ↔ (c < lo ∨ hi ≤ c) := by
      rcases Nat.lt_or_ge 9999 (nuV bs L A) with z | z
      · have := r2 z; omega
      · have := r1 z; omega
    refine zJ_aload_n dX10_number_74 rfl ?_
    refine zP_geti lf_X10_25 (zSt_ob hs 1 10 rfl) rfl dX10_number_75 ?_
    refine zJ_aload_n dX10_number_78 rfl ?_
    refine zP_geti lf_X10_28 (zSt_ob hs 1 10 rfl) rfl dX10_number_79 ?_
    rw [tX_at h2, tX_fr h2]
    refine zJ_icmp_ne 97 dX10_number_82 (by decide) (fun c82 => ?_) (fun c82 => ?_)
    · skip
      refine zJ_iload_n dX10_number_97 rfl ?_
      refine zJ_iload_n dX10_number_98 rfl ?_
      refine zJ_icmp_lt 107 dX10_number_99 (by decide) (fun c99 => ?_) (fun c99 => ?_)
      · skip
        refine zJ_aload_n dX10_number_107 rfl ?_
        refine zJ_iconst (v := nI 2) dX10_number_108 rfl ?_
        refine zJ_aload_n dX10_number_109 rfl ?_
        refine zP_geti lf_X10_28 (zSt_ob hs 1 10 rfl) rfl dX10_number_110 ?_
        refine zP_ecallVv [_, _] _ lv_X10_41 (k_fail (d := d - 1) hl (by omega) hs h2 (by omega) (by omega) (tX_fr h2)) (zSt_ob hs 1 10 rfl) rfl (by omega) (Nat.le_of_ble_eq_true rfl) rfl dX10_number_113 (fun J2 hJ2 => ?_)
        refine zJ_iload_n dX10_number_116 rfl ?_
        refine zJ_iret rfl dX10_number_117 ?_
        have e0 : ¬ nuE bs L A = sk bs L A := fun z => c82 (by rw [z])
        have hx : nuX bs L A lo hi = some (2, sk bs L A) := by unfold nuX; rw [if_neg e0, if_pos (hiff.mpr (Or.inl ((nI_ltI (by omega) (by omega)).mp c99)))]
        rw [hx]
        exact ⟨_, J2, rfl, rfl, c, rfl, r3, (fun z => by cases z), fT_trans h1 hJ2.1, hJ2.2⟩
      · skip
        refine zJ_iload_n dX10_number_102 rfl ?_
        refine zJ_iload_n dX10_number_103 rfl ?_
        refine zJ_icmp_le 116 dX10_number_104 (by decide) (fun c104 => ?_) (fun c104 => ?_)
        · skip
          refine zJ_iload_n dX10_number_116 rfl ?_
          refine zJ_iret rfl dX10_number_117 ?_
          have e0 : ¬ nuE bs L A = sk bs L A := fun z => c82 (by rw [z])
          have e1 : ¬ c < lo := fun z => c99 (nI_lt z (by omega))
          have e2 := (nI_hi r3 hhi).mp c104
          have hx : nuX bs L A lo hi = none := by unfold nuX; rw [if_neg e0, if_neg (fun z => by have := hiff.mp z; omega)]
          rw [hx]
          refine ⟨_, J, rfl, rfl, c, rfl, r3, fun _ => ⟨(hvc ⟨by omega, e2⟩).symm, by omega, e2⟩, h1, ?_⟩
          cases e <;> exact h2
        · skip
          refine zJ_aload_n dX10_number_107 rfl ?_
          refine zJ_iconst (v := nI 2) dX10_number_108 rfl ?_
          refine zJ_aload_n dX10_number_109 rfl ?_
          refine zP_geti lf_X10_28 (zSt_ob hs 1 10 rfl) rfl dX10_number_110 ?_
          refine zP_ecallVv [_, _] _ lv_X10_41 (k_fail (d := d - 1) hl (by omega) hs h2 (by omega) (by omega) (tX_fr h2)) (zSt_ob hs 1 10 rfl) rfl (by omega) (Nat.le_of_ble_eq_true rfl) rfl dX10_number_113 (fun J2 hJ2 => ?_)
          refine zJ_iload_n dX10_number_116 rfl ?_
          refine zJ_iret rfl dX10_number_117 ?_
          have e0 : ¬ nuE bs L A = sk bs L A := fun z => c82 (by rw [z])
          have e2 : ¬ c < hi := fun z => c104 ((nI_hi r3 hhi).mpr z)
          have hx : nuX bs L A lo hi = some (2, sk bs L A) := by unfold nuX; rw [if_neg e0, if_pos (hiff.mpr (Or.inr (by omega)))]
          rw [hx]
          exact ⟨_, J2, rfl, rfl, c, rfl, r3, (fun z => by cases z), fT_trans h1 hJ2.1, hJ2.2⟩
    · skip
      refine zJ_aload_n dX10_number_85 rfl ?_
      refine zJ_iconst (v := nI 1) dX10_number_86 rfl ?_
      refine zJ_aload_n dX10_number_87 rfl ?_
      refine zP_geti lf_X10_28 (zSt_ob hs 1 10 rfl) rfl dX10_number_88 ?_
      refine zP_ecallVv [_, _] _ lv_X10_41 (k_fail (d := d - 1) hl (by omega) hs h2 (by omega) (by omega) (tX_fr h2)) (zSt_ob hs 1 10 rfl) rfl (by omega) (Nat.le_of_ble_eq_true rfl) rfl dX10_number_91 (fun J2 hJ2 => ?_)
      refine zJ_goto 116 dX10_number_94 (by decide) ?_
      refine zJ_iload_n dX10_number_116 rfl ?_
      refine zJ_iret rfl dX10_number_117 ?_
      have e0 : nuE bs L A = sk bs L A := (nI_eq (by omega) (by omega)).mp c82
      have hx : nuX bs L A lo hi = some (1, sk bs L A) := by unfold nuX; rw [if_pos e0]
      rw [hx]
      exact ⟨_, J2, rfl, rfl, c, rfl, r3, (fun z => by cases z), fT_trans h1 hJ2.1, hJ2.2⟩
  have loop : ∀ m (J : zI) (B c : Nat), L - B = m → fT I J → tX J bs L B (sk bs L A) e → nrel (dvN bs (sk bs L A) (B - sk bs L A)) c → sp (dgB bs) L B = nuE bs L A → zJ l Xi mX10_number d 0 0 6 [some (.ref 1), some (.int (nI lo)), some (.int (nI hi - 1)), some (.int (nI c))] [] (J, g) (fun r' h' => ∃ x I', r' = .inl (some (.int x)) ∧ h' = (I', g) ∧ ∃ c, x = nI c ∧ c ≤ 100009 ∧ (nuX bs L A lo hi = none → c = nuV bs L A ∧ lo ≤ c ∧ c < hi) ∧ fT I I' ∧ tX I' bs L (nuE bs L A) (sk bs L A) (mg e (nuX bs L A lo hi))) := by
    intro m
    induction m with
    | zero =>
      intro J B c hm h1 h2 h3 h4
      have hB := tX_le h2
      have hE : nuE bs L A = B := by rw [← h4, sp_step, if_neg (by omega)]
      refine zJ_aload_n dX10_number_6 rfl ?_
      refine zP_geti lf_X10_25 (zSt_ob hs 1 10 rfl) rfl dX10_number_7 ?_
      refine zJ_aload_n dX10_number_10 rfl ?_
      refine zP_geti lf_X10_22 (zSt_ob hs 1 10 rfl) rfl dX10_number_11 ?_
      rw [tX_at h2, tX_len h2]
      refine zJ_icmp_ge 74 dX10_number_14 (by decide) (fun _ => ?_) (fun c14 => absurd (nI_le (by omega) (by omega)) c14)
      refine h74 J c h1 (by rw [hE]; exact h2) ?_
      unfold nuV
      rw [hE]
      exact h3
    | succ m ih =>
      intro J B c hm h1 h2 h3 h4
      have hB := tX_le h2
      have hby := tX_by h2 (k := B) (by omega)
      rw [sp_step] at h4
      have r3 := h3.2.2
      refine zJ_aload_n dX10_number_6 rfl ?_
      refine zP_geti lf_X10_25 (zSt_ob hs 1 10 rfl) rfl dX10_number_7 ?_
      refine zJ_aload_n dX10_number_10 rfl ?_
      refine zP_geti lf_X10_22 (zSt_ob hs 1 10 rfl) rfl dX10_number_11 ?_
      rw [tX_at h2, tX_len h2]
      refine zJ_icmp_ge 74 dX10_number_14 (by decide) (fun c14 => absurd c14 (nI_ge (by omega) (by omega))) (fun _ => ?_)
      refine zJ_aload_n dX10_number_17 rfl ?_
      refine zP_getr lf_X10_9 (zSt_ob hs 1 10 rfl) rfl (zSt_rf hs 1 0 2 rfl) dX10_number_18 ?_
      refine zJ_aload_n dX10_number_21 rfl ?_
      refine zP_geti lf_X10_25 (zSt_ob hs 1 10 rfl) rfl dX10_number_22 ?_
      rw [tX_at h2]
      refine zP_iald (zSt_ar hs 2 600 rfl) (by first | assumption | with_reducible exact vp_in_nI (by omega) (by omega) | (simp (disch := omega) only [nI_add, pk_mul, pk_sub, pk_div, pk_rem, nI_clamp]; with_reducible exact vp_in_nI (by omega) (by omega))) dX10_number_25 ?_
      rw [nI_clamp (by omega), hby.1]
      refine zP_callSi [_] _ ls_X10_37 (k_X10_isDigit (d := d - 1) hl (by omega)) rfl (by omega) (Nat.le_of_ble_eq_true rfl) rfl dX10_number_26 ?_
      rw [digB_eq hby.2]
      refine zJ_if_eq 74 dX10_number_29 (by decide) (fun c29 => ?_) (fun c29 => ?_)
      · replace c29 := zb0.mp c29
        rw [if_neg (fun z => by rw [c29] at z; cases z.2)] at h4
        refine h74 J c h1 (by rw [← h4]; exact h2) ?_
        unfold nuV
        rw [← h4]
        exact h3
      · replace c29 := zb1.mp c29
        refine zJ_iload_n dX10_number_32 rfl ?_
        refine zJ_sipush (v := nI 9999) dX10_number_33 rfl ?_
        refine zJ_icmp_le 43 dX10_number_36 (by decide) (fun c36 => ?_) (fun c36 => ?_)
        · skip
          refine zJ_iload_n dX10_number_43 rfl ?_
          refine zJ_bipush (v := nI 10) dX10_number_44 rfl ?_
          refine zJ_imul dX10_number_46 ?_
          refine zJ_aload_n dX10_number_47 rfl ?_
          refine zP_getr lf_X10_9 (zSt_ob hs 1 10 rfl) rfl (zSt_rf hs 1 0 2 rfl) dX10_number_48 ?_
          refine zJ_aload_n dX10_number_51 rfl ?_
          refine zP_geti lf_X10_25 (zSt_ob hs 1 10 rfl) rfl dX10_number_52 ?_
          rw [tX_at h2]
          refine zP_iald (zSt_ar hs 2 600 rfl) (by first | assumption | with_reducible exact vp_in_nI (by omega) (by omega) | (simp (disch := omega) only [nI_add, pk_mul, pk_sub, pk_div, pk_rem, nI_clamp]; with_reducible exact vp_in_nI (by omega) (by omega))) dX10_number_55 ?_
          rw [nI_clamp (by omega), hby.1]
          refine zJ_iadd dX10_number_56 ?_
          refine zJ_bipush (v := nI 48) dX10_number_57 rfl ?_
          rw [pk_mul, nI_add]
          refine zJ_isub dX10_number_59 ?_
          refine zJ_istore_m 3 dX10_number_60 rfl (Nat.le_of_ble_eq_true rfl) (by decide) ?_
          refine zJ_aload_n dX10_number_61 rfl ?_
          refine zJ_dup dX10_number_62 rfl ?_
          refine zP_geti lf_X10_25 (zSt_ob hs 1 10 rfl) rfl dX10_number_63 ?_
          rw [tX_at h2]
          refine zJ_iconst (v := nI 1) dX10_number_66 rfl ?_
          refine zJ_iadd dX10_number_67 ?_
          rw [nI_add]
          refine zP_puti lf_X10_25 (zSt_ob hs 1 10 rfl) rfl dX10_number_68 ?_
          refine zJ_goto 6 dX10_number_71 (by decide) ?_
          rw [if_pos ⟨by omega, c29⟩] at h4
          have hdg : 48 ≤ bs B ∧ bs B ≤ 57 := by simpa [dgB] using c29
          have hc := (nI_leI (by omega) (by omega)).mp c36
          have hst := nrel_step (t := bs B - 48) h3 (by omega)
          rw [if_neg (by omega)] at hst
          refine zJ_back (zle_r (zle_r (zle_r (zle_i (by rw [pk_sub (by omega)]) zle_0)))) rfl (ih (zup J 1 3 (nI (B + 1))) (B + 1) (c * 10 + bs B - 48) (by omega) (fT_zup h1) (tX_sat h2 (by omega) (by omega)) ?_ h4)
          rw [show B + 1 - sk bs L A = (B - sk bs L A) + 1 by omega]
          simp only [dvN]
          rw [show sk bs L A + (B - sk bs L A) = B by omega, show c * 10 + bs B - 48 = 10 * c + (bs B - 48) by omega]
          exact hst
        · skip
          refine zJ_iload_n dX10_number_39 rfl ?_
          refine zJ_goto 60 dX10_number_40 (by decide) ?_
          refine zJ_istore_m 3 dX10_number_60 rfl (Nat.le_of_ble_eq_true rfl) (by decide) ?_
          refine zJ_aload_n dX10_number_61 rfl ?_
          refine zJ_dup dX10_number_62 rfl ?_
          refine zP_geti lf_X10_25 (zSt_ob hs 1 10 rfl) rfl dX10_number_63 ?_
          rw [tX_at h2]
          refine zJ_iconst (v := nI 1) dX10_number_66 rfl ?_
          refine zJ_iadd dX10_number_67 ?_
          rw [nI_add]
          refine zP_puti lf_X10_25 (zSt_ob hs 1 10 rfl) rfl dX10_number_68 ?_
          refine zJ_goto 6 dX10_number_71 (by decide) ?_
          rw [if_pos ⟨by omega, c29⟩] at h4
          have hdg : 48 ≤ bs B ∧ bs B ≤ 57 := by simpa [dgB] using c29
          have hc : 9999 < c := Nat.lt_of_not_le (fun z => c36 ((nI_leI (by omega) (by omega)).mpr z))
          have hst := nrel_step (t := bs B - 48) h3 (by omega)
          rw [if_pos hc] at hst
          refine zJ_back (zle_r (zle_r (zle_r (zle_r zle_0)))) rfl (ih (zup J 1 3 (nI (B + 1))) (B + 1) c (by omega) (fT_zup h1) (tX_sat h2 (by omega) (by omega)) ?_ h4)
          rw [show B + 1 - sk bs L A = (B - sk bs L A) + 1 by omega]
          simp only [dvN]
          rw [show sk bs L A + (B - sk bs L A) = B by omega]
          exact hst
  refine zJ_aload_n dX10_number_0 rfl ?_
  refine zP_ecallVv [] _ lv_X10_34 (sk9 (d := d - 1) (by omega)) (zSt_ob hs 1 10 rfl) rfl (by omega) (Nat.le_of_ble_eq_true rfl) rfl dX10_number_1 (fun J hJ => ?_)
  refine zJ_iconst (v := nI 0) dX10_number_4 rfl ?_
  refine zJ_istore_m 3 dX10_number_5 rfl (Nat.le_of_ble_eq_true rfl) (by decide) ?_
  exact loop _ J (sk bs L A) 0 rfl hJ.1 hJ.2 (by rw [Nat.sub_self]; exact ⟨fun _ => rfl, fun z => absurd z (by simp [dvN]), by omega⟩) rfl
def woE (bs : Nat → Nat) (L A : Nat) : Nat := sp (ltB bs) L (sk bs L A)
theorem k_readWord (hl : l.stackTraces = false) (hd : 2 ≤ d) (hs : zSt g) {bs : Nat → Nat} {L A F : Nat} {e : Option (Nat × Nat)} (ht : tX I bs L A F e) : zEv l Xi mX10_readWord d [.ref 1] I g (fun J => fT I J ∧ tX J bs L (woE bs L A) (sk bs L A) e) := by
  refine zC_of hl rfl rfl rfl (Nat.le_of_ble_eq_true rfl) (zav_r (zSt_ob hs 1 10 rfl).1 zav_0) ?_
  have hle := tX_le ht
  have hsk := sk_le (bs := bs) hle.1
  have loop : ∀ m (J : zI) (B : Nat), L - B = m → fT I J → tX J bs L B (sk bs L A) e → sp (ltB bs) L B = woE bs L A → zJ l Xi mX10_readWord d 0 0 4 [some (.ref 1)] [] (J, g) (fun r' h' => r' = .inl none ∧ ∃ I', h' = (I', g) ∧ fT I I' ∧ tX I' bs L (woE bs L A) (sk bs L A) e) := by
    intro m
    induction m with
    | zero =>
      intro J B hm h1 h2 h4
      have hB := tX_le h2
      have hE : woE bs L A = B := by rw [← h4, sp_step, if_neg (by omega)]
      refine zJ_aload_n dX10_readWord_4 rfl ?_
      refine zP_geti lf_X10_25 (zSt_ob hs 1 10 rfl) rfl dX10_readWord_5 ?_
      refine zJ_aload_n dX10_readWord_8 rfl ?_
      refine zP_geti lf_X10_22 (zSt_ob hs 1 10 rfl) rfl dX10_readWord_9 ?_
      rw [tX_at h2, tX_len h2]
      refine zJ_icmp_ge 56 dX10_readWord_12 (by decide) (fun _ => ?_) (fun c12 => absurd (nI_le (by omega) (by omega)) c12)
      refine zJ_vret rfl dX10_readWord_56 ?_
      exact ⟨rfl, J, rfl, h1, by rw [hE]; exact h2⟩
    | succ m ih =>
      intro J B hm h1 h2 h4
      have hB := tX_le h2
      have hby := tX_by h2 (k := B) (by omega)
      rw [sp_step] at h4
      refine zJ_aload_n dX10_readWord_4 rfl ?_
      refine zP_geti lf_X10_25 (zSt_ob hs 1 10 rfl) rfl dX10_readWord_5 ?_
      refine zJ_aload_n dX10_readWord_8 rfl ?_
      refine zP_geti lf_X10_22 (zSt_ob hs 1 10 rfl) rfl dX10_readWord_9 ?_
      rw [tX_at h2, tX_len h2]
      refine zJ_icmp_ge 56 dX10_readWord_12 (by decide) (fun c12 => absurd c12 (nI_ge (by omega) (by omega))) (fun _ => ?_)
      refine zJ_aload_n dX10_readWord_15 rfl ?_
      refine zP_getr lf_X10_9 (zSt_ob hs 1 10 rfl) rfl (zSt_rf hs 1 0 2 rfl) dX10_readWord_16 ?_
      refine zJ_aload_n dX10_readWord_19 rfl ?_
      refine zP_geti lf_X10_25 (zSt_ob hs 1 10 rfl) rfl dX10_readWord_20 ?_
      rw [tX_at h2]
      refine zP_iald (zSt_ar hs 2 600 rfl) (by first | assumption | with_reducible exact vp_in_nI (by omega) (by omega) | (simp (disch := omega) only [nI_add, pk_mul, pk_sub, pk_div, pk_rem, nI_clamp]; with_reducible exact vp_in_nI (by omega) (by omega))) dX10_readWord_23 ?_
      rw [nI_clamp (by omega), hby.1]
      refine zJ_bipush (v := nI 97) dX10_readWord_24 rfl ?_
      refine zJ_icmp_lt 56 dX10_readWord_26 (by decide) (fun c26 => ?_) (fun c26 => ?_)
      · skip
        refine zJ_vret rfl dX10_readWord_56 ?_
        have hz : bs B < 97 := (nI_ltI (by omega) (by omega)).mp c26
        rw [if_neg (fun z => by have := z.2; simp [ltB] at this; omega)] at h4
        exact ⟨rfl, J, rfl, h1, by rw [← h4]; exact h2⟩
      · skip
        refine zJ_aload_n dX10_readWord_29 rfl ?_
        refine zP_getr lf_X10_9 (zSt_ob hs 1 10 rfl) rfl (zSt_rf hs 1 0 2 rfl) dX10_readWord_30 ?_
        refine zJ_aload_n dX10_readWord_33 rfl ?_
        refine zP_geti lf_X10_25 (zSt_ob hs 1 10 rfl) rfl dX10_readWord_34 ?_
        rw [tX_at h2]
        refine zP_iald (zSt_ar hs 2 600 rfl) (by first | assumption | with_reducible exact vp_in_nI (by omega) (by omega) | (simp (disch := omega) only [nI_add, pk_mul, pk_sub, pk_div, pk_rem, nI_clamp]; with_reducible exact vp_in_nI (by omega) (by omega))) dX10_readWord_37 ?_
        rw [nI_clamp (by omega), hby.1]
        refine zJ_bipush (v := nI 122) dX10_readWord_38 rfl ?_
        refine zJ_icmp_gt 56 dX10_readWord_40 (by decide) (fun c40 => ?_) (fun c40 => ?_)
        · skip
          refine zJ_vret rfl dX10_readWord_56 ?_
          have hz : 122 < bs B := (nI_ltI (by omega) (by omega)).mp c40
          rw [if_neg (fun z => by have := z.2; simp [ltB] at this; omega)] at h4
          exact ⟨rfl, J, rfl, h1, by rw [← h4]; exact h2⟩
        · skip
          refine zJ_aload_n dX10_readWord_43 rfl ?_
          refine zJ_dup dX10_readWord_44 rfl ?_
          refine zP_geti lf_X10_25 (zSt_ob hs 1 10 rfl) rfl dX10_readWord_45 ?_
          rw [tX_at h2]
          refine zJ_iconst (v := nI 1) dX10_readWord_48 rfl ?_
          refine zJ_iadd dX10_readWord_49 ?_
          rw [nI_add]
          refine zP_puti lf_X10_25 (zSt_ob hs 1 10 rfl) rfl dX10_readWord_50 ?_
          refine zJ_goto 4 dX10_readWord_53 (by decide) ?_
          have hz : 97 ≤ bs B := Nat.le_of_not_lt (fun z => c26 (nI_lt z (by omega)))
          have hz2 : bs B ≤ 122 := Nat.le_of_not_lt (fun z => c40 (nI_lt z (by omega)))
          rw [if_pos ⟨by omega, by simp [ltB, hz, hz2]⟩] at h4
          exact ih _ (B + 1) (by omega) (fT_zup h1) (tX_sat h2 (by omega) (by omega)) h4
  refine zJ_aload_n dX10_readWord_0 rfl ?_
  refine zP_ecallVv [] _ lv_X10_34 (k_skip (d := d - 1) hl (by omega) hs ht) (zSt_ob hs 1 10 rfl) rfl (by omega) (Nat.le_of_ble_eq_true rfl) rfl dX10_readWord_1 (fun J hJ => ?_)
  exact loop _ J _ rfl hJ.1 hJ.2 rfl
def wdB (bs : Nat → Nat) (F A i : Nat) : Bool := decide (A - F = (zbyt.getD i []).length) && allB (fun k => decide (nI (bs (F + k)) = (zbyt.getD i []).getD k 0)) (zbyt.getD i []).length
theorem k_wordIs (hl : l.stackTraces = false) (hd : 5 ≤ d) (hs : zSt g) {bs : Nat → Nat} {L A F i : Nat} {e : Option (Nat × Nat)} (ht : tX I bs L A F e) (hi : i < 20) : zD l Xi mX10_wordIs d [.ref 1, .ref (zB + (10 + i))] I g (some (.int (if wdB bs F A i then 1 else 0))) I := by
  refine zC_of hl rfl rfl rfl (Nat.le_of_ble_eq_true rfl) (zav_r (zSt_ob hs 1 10 rfl).1 (zav_k (by omega) zav_0)) ?_
  have hle := tX_le ht
  have hz := (zlen_ok i hi)
  obtain ⟨N, hN⟩ : ∃ N, (zbyt.getD i []).length = N := ⟨_, rfl⟩
  have hN5 : N ≤ 5 := by rw [← hN, ← hz.2.2]; exact hz.2.1
  have ks9 : ∀ {d : Nat}, 2 ≤ d → zD l Xi mJ0_length_8abf5 d [.ref (zB + (10 + i))] I g (some (.int (nI N))) I := fun h => by rw [← hN]; exact k_strlen hl h hi
  by_cases hNA : A - F = N
  · skip
    have loop : ∀ m p, p + m = N → (allB (fun k => decide (nI (bs (F + k)) = (zbyt.getD i []).getD k 0)) p = true) → zJ l Xi mX10_wordIs d 0 0 20 [some (.ref 1), some (.ref (zB + (10 + i))), some (.int (nI p))] [] (I, g) (fun r' h' => r' = .inl (some (.int (if wdB bs F A i then 1 else 0))) ∧ h' = (I, g)) := by
      intro m
      induction m with
      | zero =>
        intro p hp hI
        obtain rfl : p = N := by omega
        refine zJ_iload_n dX10_wordIs_20 rfl ?_
        refine zJ_aload_n dX10_wordIs_21 rfl ?_
        refine zP_callTi [] _ lv_X10_45 (ks9 (d := d - 1) (by omega)) hi rfl (by omega) (Nat.le_of_ble_eq_true rfl) rfl dX10_wordIs_22 ?_
        refine zJ_icmp_ge 55 dX10_wordIs_25 (by decide) (fun _ => ?_) (fun c25 => absurd (nI_le (by omega) (by omega)) c25)
        refine zJ_iconst (v := nI 1) dX10_wordIs_55 rfl ?_
        refine zJ_zret rfl (by decide) dX10_wordIs_56 ?_
        exact ⟨by rw [show wdB bs F A i = true by unfold wdB; rw [hN, hI, decide_eq_true hNA]; rfl]; rfl, rfl⟩
      | succ m ih =>
        intro p hp hI
        have hby := tX_by ht (k := F + p) (by omega)
        refine zJ_iload_n dX10_wordIs_20 rfl ?_
        refine zJ_aload_n dX10_wordIs_21 rfl ?_
        refine zP_callTi [] _ lv_X10_45 (ks9 (d := d - 1) (by omega)) hi rfl (by omega) (Nat.le_of_ble_eq_true rfl) rfl dX10_wordIs_22 ?_
        refine zJ_icmp_ge 55 dX10_wordIs_25 (by decide) (fun c25 => absurd c25 (nI_ge (by omega) (by omega))) (fun _ => ?_)
        refine zJ_aload_n dX10_wordIs_28 rfl ?_
        refine zP_getr lf_X10_9 (zSt_ob hs 1 10 rfl) rfl (zSt_rf hs 1 0 2 rfl) dX10_wordIs_29 ?_
        refine zJ_aload_n dX10_wordIs_32 rfl ?_
        refine zP_geti lf_X10_28 (zSt_ob hs 1 10 rfl) rfl dX10_wordIs_33 ?_
        rw [tX_fr ht]
        refine zJ_iload_n dX10_wordIs_36 rfl ?_
        refine zJ_iadd dX10_wordIs_37 ?_
        rw [nI_add]
        refine zP_iald (zSt_ar hs 2 600 rfl) (by first | assumption | with_reducible exact vp_in_nI (by omega) (by omega) | (simp (disch := omega) only [nI_add, pk_mul, pk_sub, pk_div, pk_rem, nI_clamp]; with_reducible exact vp_in_nI (by omega) (by omega))) dX10_wordIs_38 ?_
        rw [nI_clamp (by omega), hby.1]
        refine zJ_aload_n dX10_wordIs_39 rfl ?_
        refine zJ_iload_n dX10_wordIs_40 rfl ?_
        refine zP_callTi [_] _ lv_X10_50 (k_charAt (d := d - 1) hl (by omega) hi (by omega)) hi rfl (by omega) (Nat.le_of_ble_eq_true rfl) rfl dX10_wordIs_41 ?_
        refine zJ_icmp_eq 49 dX10_wordIs_44 (by decide) (fun c44 => ?_) (fun c44 => ?_)
        · skip
          refine zJ_iinc1 dX10_wordIs_49 rfl (by decide) ?_
          refine zJ_goto 20 dX10_wordIs_52 (by decide) ?_
          exact zJ_back (zle_r (zle_r (zle_r zle_0))) rfl (ih (p + 1) (by omega) (by simp only [allB, hI, Bool.true_and]; exact decide_eq_true c44))
        · skip
          refine zJ_iconst (v := nI 0) dX10_wordIs_47 rfl ?_
          refine zJ_zret rfl (by decide) dX10_wordIs_48 ?_
          exact ⟨by rw [show wdB bs F A i = false by unfold wdB; rw [allB_no (i := p) (by omega) (decide_eq_false c44)]; exact Bool.and_false _]; rfl, rfl⟩
    refine zJ_aload_n dX10_wordIs_0 rfl ?_
    refine zP_callTi [] _ lv_X10_45 (ks9 (d := d - 1) (by omega)) hi rfl (by omega) (Nat.le_of_ble_eq_true rfl) rfl dX10_wordIs_1 ?_
    refine zJ_aload_n dX10_wordIs_4 rfl ?_
    refine zP_geti lf_X10_25 (zSt_ob hs 1 10 rfl) rfl dX10_wordIs_5 ?_
    refine zJ_aload_n dX10_wordIs_8 rfl ?_
    refine zP_geti lf_X10_28 (zSt_ob hs 1 10 rfl) rfl dX10_wordIs_9 ?_
    rw [tX_at ht, tX_fr ht]
    refine zJ_isub dX10_wordIs_12 ?_
    rw [pk_sub hle.2.1, hNA]
    refine zJ_icmp_eq 18 dX10_wordIs_13 (by decide) (fun _ => ?_) (fun c13 => absurd rfl c13)
    refine zJ_iconst (v := nI 0) dX10_wordIs_18 rfl ?_
    refine zJ_istore_m 2 dX10_wordIs_19 rfl (Nat.le_of_ble_eq_true rfl) (by decide) ?_
    exact loop N 0 (by omega) rfl
  · skip
    refine zJ_aload_n dX10_wordIs_0 rfl ?_
    refine zP_callTi [] _ lv_X10_45 (ks9 (d := d - 1) (by omega)) hi rfl (by omega) (Nat.le_of_ble_eq_true rfl) rfl dX10_wordIs_1 ?_
    refine zJ_aload_n dX10_wordIs_4 rfl ?_
    refine zP_geti lf_X10_25 (zSt_ob hs 1 10 rfl) rfl dX10_wordIs_5 ?_
    refine zJ_aload_n dX10_wordIs_8 rfl ?_
    refine zP_geti lf_X10_28 (zSt_ob hs 1 10 rfl) rfl dX10_wordIs_9 ?_
    rw [tX_at ht, tX_fr ht]
    refine zJ_isub dX10_wordIs_12 ?_
    rw [pk_sub hle.2.1]
    refine zJ_icmp_eq 18 dX10_wordIs_13 (by decide) (fun c13 => absurd c13 (fun z => hNA ((nI_eq (by omega) (by omega)).mp z).symm)) (fun _ => ?_)
    refine zJ_iconst (v := nI 0) dX10_wordIs_16 rfl ?_
    refine zJ_zret rfl (by decide) dX10_wordIs_17 ?_
    exact ⟨by rw [show wdB bs F A i = false by unfold wdB; rw [hN, decide_eq_false hNA]; rfl]; rfl, rfl⟩
/-- the tape -/
def tp (I : zI) (fed : Nat) (bs : Nat → Nat) : Prop := I 1 1 = nI fed ∧ fed ≤ 600 ∧ ∀ k, k < 600 → I 2 k = nI (bs k) ∧ bs k < 256
theorem k_begin (hl : l.stackTraces = false) (hd : 1 ≤ d) (hs : zSt g) {bs : Nat → Nat} {L fed : Nat} (ht : tp I fed bs) (hL : L ≤ 600) : zEv l Xi mX10_begin d [.ref 1, .int (nI L)] I g (fun J => fT I J ∧ tX J bs L 0 0 none) := by
  refine zC_of hl rfl rfl rfl (Nat.le_of_ble_eq_true rfl) (zav_r (zSt_ob hs 1 10 rfl).1 (zav_i zav_0)) ?_
  refine zJ_aload_n dX10_begin_0 rfl ?_
  refine zJ_iload_n dX10_begin_1 rfl ?_
  refine zP_puti lf_X10_22 (zSt_ob hs 1 10 rfl) rfl dX10_begin_2 ?_
  refine zJ_aload_n dX10_begin_5 rfl ?_
  refine zJ_iconst (v := nI 0) dX10_begin_6 rfl ?_
  refine zP_puti lf_X10_25 (zSt_ob hs 1 10 rfl) rfl dX10_begin_7 ?_
  refine zJ_aload_n dX10_begin_10 rfl ?_
  refine zJ_iconst (v := nI 0) dX10_begin_11 rfl ?_
  refine zP_puti lf_X10_28 (zSt_ob hs 1 10 rfl) rfl dX10_begin_12 ?_
  refine zJ_aload_n dX10_begin_15 rfl ?_
  refine zJ_iconst (v := nI 0) dX10_begin_16 rfl ?_
  refine zP_puti lf_X10_19 (zSt_ob hs 1 10 rfl) rfl dX10_begin_17 ?_
  refine zJ_aload_n dX10_begin_20 rfl ?_
  refine zJ_iconst (v := nI 0) dX10_begin_21 rfl ?_
  refine zP_puti lf_X10_31 (zSt_ob hs 1 10 rfl) rfl dX10_begin_22 ?_
  refine zJ_aload_n dX10_begin_25 rfl ?_
  refine zJ_iconst (v := -1) dX10_begin_26 rfl ?_
  refine zP_puti lf_X10_15 (zSt_ob hs 1 10 rfl) rfl dX10_begin_27 ?_
  refine zJ_vret rfl dX10_begin_30 ?_
  refine ⟨rfl, _, rfl, fT_zup (fT_zup (fT_zup (fT_zup (fT_zup (fT_zup fT_rfl))))), ⟨?_, ?_, hL, ?_, Nat.zero_le _, ?_, Nat.zero_le _, ?_, Nat.zero_le _, ?_, ?_⟩, fun q hq => by cases hq⟩
  all_goals first
    | (simp [zup, va_up, upd]; done)
    | (simp [zup, va_up, upd, eK, eW, nI0]; done)
    | skip
  · intro k hk
    simp [zup, va_up]
    exact ht.2.2 k hk
def byt (x : Int32) (j : Nat) : Nat := x.toBitVec.toNat / 2 ^ (24 - 8 * j) % 256
def apd (bs : Nat → Nat) (fed : Nat) (x : Int32) (n : Nat) : Nat → Nat := fun k => if fed ≤ k ∧ k < fed + n then byt x (k - fed) else bs k
def shf (j : Nat) : Int32 := nI 24 - nI (8 * j)
def fA (I J : zI) : Prop := ∀ a, a ≠ 1 → a ≠ 2 → J a = I a
theorem shf_ok : ∀ j, j < 4 → ¬ shf j < 0 ∧ shf j + Int32.ofInt (-8) = shf (j + 1) ∧ (((shf j).toUInt32 &&& Int32.toUInt32 31).toBitVec % 32).toNat = 24 - 8 * j := by decide
theorem byt_eq {x : Int32} {j : Nat} (hj : j < 4) : (x.toUInt32 >>> ((shf j).toUInt32 &&& Int32.toUInt32 31)).toInt32 &&& nI 255 = nI (byt x j) := by
  rw [pk_and _ 8 (by decide), pk_ushr x (shf j) (24 - 8 * j) (shf_ok j hj).2.2]
  rfl
theorem k_append (hl : l.stackTraces = false) (hd : 1 ≤ d) (hs : zSt g) {bs : Nat → Nat} {fed : Nat} {x : Int32} (ht : tp I fed bs) (hf : fed + 4 ≤ 600) : zEv l Xi mX10_append d [.ref 1, .int x] I g (fun J => fA I J ∧ (∀ k, k ≠ 1 → J 1 k = I 1 k) ∧ tp J (fed + 4) (apd bs fed x 4)) := by
  refine zC_of hl rfl rfl rfl (Nat.le_of_ble_eq_true rfl) (zav_r (zSt_ob hs 1 10 rfl).1 (zav_i zav_0)) ?_
  have loop : ∀ m j (J : zI), j + m = 4 → (fA I J ∧ (∀ k, k ≠ 1 → J 1 k = I 1 k) ∧ tp J (fed + j) (apd bs fed x j)) → zJ l Xi mX10_append d 0 0 3 [some (.ref 1), some (.int x), some (.int (shf j))] [] (J, g) (fun r' h' => r' = .inl none ∧ ∃ I', h' = (I', g) ∧ fA I I' ∧ (∀ k, k ≠ 1 → I' 1 k = I 1 k) ∧ tp I' (fed + 4) (apd bs fed x 4)) := by
    intro m
    induction m with
    | zero =>
      intro j J hj h
      obtain rfl : j = 4 := by omega
      refine zJ_iload_n dX10_append_3 rfl ?_
      refine zJ_if_lt 51 dX10_append_4 (by decide) (fun _ => ?_) (fun c4 => absurd (by decide) c4)
      refine zJ_vret rfl dX10_append_51 ?_
      exact ⟨rfl, J, rfl, h⟩
    | succ m ih =>
      intro j J hj h
      obtain ⟨h1, h2, h3, h4, h5⟩ := h
      refine zJ_iload_n dX10_append_3 rfl ?_
      refine zJ_if_lt 51 dX10_append_4 (by decide) (fun c4 => absurd c4 (shf_ok j (by omega)).1) (fun _ => ?_)
      refine zJ_aload_n dX10_append_7 rfl ?_
      refine zP_geti lf_X10_19 (zSt_ob hs 1 10 rfl) rfl dX10_append_8 ?_
      refine zJ_aload_n dX10_append_11 rfl ?_
      refine zP_getr lf_X10_9 (zSt_ob hs 1 10 rfl) rfl (zSt_rf hs 1 0 2 rfl) dX10_append_12 ?_
      refine zP_alen (zSt_ar hs 2 600 rfl) dX10_append_15 ?_
      rw [h3]
      refine zJ_icmp_ge 45 dX10_append_16 (by decide) (fun c16 => absurd c16 (nI_ge (by omega) (by omega))) (fun _ => ?_)
      refine zJ_aload_n dX10_append_19 rfl ?_
      refine zP_getr lf_X10_9 (zSt_ob hs 1 10 rfl) rfl (zSt_rf hs 1 0 2 rfl) dX10_append_20 ?_
      refine zJ_aload_n dX10_append_23 rfl ?_
      refine zP_geti lf_X10_19 (zSt_ob hs 1 10 rfl) rfl dX10_append_24 ?_
      rw [h3]
      refine zJ_iload_n dX10_append_27 rfl ?_
      refine zJ_iload_n dX10_append_28 rfl ?_
      refine zJ_iushr dX10_append_29 ?_
      refine zJ_sipush (v := nI 255) dX10_append_30 rfl ?_
      refine zJ_iand dX10_append_33 ?_
      rw [byt_eq (by omega)]
      refine zP_iast (zSt_ar hs 2 600 rfl) (by first | assumption | with_reducible exact vp_in_nI (by omega) (by omega) | (simp (disch := omega) only [nI_add, pk_mul, pk_sub, pk_div, pk_rem, nI_clamp]; with_reducible exact vp_in_nI (by omega) (by omega))) dX10_append_34 ?_
      refine zJ_aload_n dX10_append_35 rfl ?_
      refine zJ_dup dX10_append_36 rfl ?_
      refine zP_geti lf_X10_19 (zSt_ob hs 1 10 rfl) rfl dX10_append_37 ?_
      rw [zup_row (by decide), h3]
      refine zJ_iconst (v := nI 1) dX10_append_40 rfl ?_
      refine zJ_iadd dX10_append_41 ?_
      rw [nI_add]
      refine zP_puti lf_X10_19 (zSt_ob hs 1 10 rfl) rfl dX10_append_42 ?_
      refine zJ_iinc dX10_append_45 rfl (by decide) rfl ?_
      refine zJ_goto 3 dX10_append_48 (by decide) ?_
      rw [nI_clamp (by omega)]
      refine zJ_back (zle_r (zle_r (zle_i (shf_ok j (by omega)).2.1.symm zle_0))) rfl (ih (j + 1) _ (by omega) ⟨fun a p q => ?_, fun k hk => ?_, ?_, by omega, fun k hk => ?_⟩)
      · rw [zup_row p, zup_row q]; exact h1 a p q
      · rw [zup_same, upd_ne hk, zup_row (by decide)]; exact h2 k hk
      · rw [zup_same, upd_at, Nat.add_assoc]
      · rw [zup_row (by decide), zup_same]
        by_cases z : k = fed + j
        · subst z
          rw [upd_at]
          unfold apd
          rw [if_pos (by omega), Nat.add_sub_cancel_left]
          exact ⟨rfl, Nat.mod_lt _ (by omega)⟩
        · rw [upd_ne z]
          have := h5 k hk
          rw [show apd bs fed x (j + 1) k = apd bs fed x j k by
            unfold apd
            by_cases y : fed ≤ k ∧ k < fed + j
            · rw [if_pos y, if_pos (by omega)]
            · rw [if_neg y, if_neg (by omega)]]
          exact this
  refine zJ_bipush (v := nI 24) dX10_append_0 rfl ?_
  refine zJ_istore_m 2 dX10_append_2 rfl (Nat.le_of_ble_eq_true rfl) (by decide) ?_
  refine zJ_back (zle_r (zle_r (zle_i (by decide) zle_0))) rfl (loop 4 0 I (by omega) ⟨fun _ _ _ => rfl, fun _ _ => rfl, ?_⟩)
  rw [show apd bs fed x 0 = bs by funext k; unfold apd; rw [if_neg (by omega)]]
  exact ht
end ZText3
