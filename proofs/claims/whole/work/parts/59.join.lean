/-! ===== Joiner.fewestPlaces ===== -/
section ZJoin4
variable {l : Launch} {Xi : zXi} {d : Nat} {I : zI} {g : zG}
def basN (b : zWo) (n : Nat) : Nat → Nat → Nat → Option Nat := lp (fun i tab => if i = 0 then tab else fun s p => if s = 2 ^ (i - 1) ∧ p = bpn b n i then some 0 else tab s p) (fun _ _ => none)
noncomputable def tabM (b : zWo) (R : Nat → Int32) (n : Nat) : Nat → Nat → Nat → Option Nat := lp (fun set tab => if set = 0 then tab else tset tab set (clJ (jnN tab set set) (wlR R) (adM b))) (basN b n (bpc b n))
noncomputable def fewM (b : zWo) (R : Nat → Int32) (n : Nat) : Int32 := if bpc b n ≤ 1 then nI (bpc b n) else match tabM b R n (2 ^ (bpc b n - 1)) (2 ^ (bpc b n - 1) - 1) (bpn b n 0) with
  | none => -1
  | some v => nI (v + 1)
theorem bas_step {b : zWo} {n i : Nat} (h : 0 < i) : basN b n (i + 1) = fun s p => if s = 2 ^ (i - 1) ∧ p = bpn b n i then some 0 else basN b n i s p := by
  show (if i = 0 then basN b n i else fun s p => if s = 2 ^ (i - 1) ∧ p = bpn b n i then some 0 else basN b n i s p) = _
  rw [if_neg (by omega)]
theorem tab_step {b : zWo} {R : Nat → Int32} {n set : Nat} (h : 0 < set) : tabM b R n (set + 1) = tset (tabM b R n set) set (clJ (jnN (tabM b R n set) set set) (wlR R) (adM b)) := by
  show (if set = 0 then tabM b R n set else tset (tabM b R n set) set (clJ (jnN (tabM b R n set) set set) (wlR R) (adM b))) = _
  rw [if_neg (by omega)]
theorem bas_0 {b : zWo} {n s p v : Nat} : ∀ {k : Nat}, basN b n k s p = some v → v = 0
  | 0, h => by cases h
  | k + 1, h => by
    rcases Nat.eq_zero_or_pos k with e | e
    · subst e; cases h
    · rw [bas_step e] at h
      simp only at h
      split at h
      · injection h with h; exact h.symm
      · exact bas_0 h
def pop3 (s : Nat) : Nat := s % 2 + s / 2 % 2 + s / 4 % 2
theorem pop_sub : ∀ set, set < 8 → ∀ k, k < 8 → subB k set = true → k ≤ set → pop3 k + pop3 (set - k) = pop3 set := by decide +kernel
theorem pop_pos : ∀ s, s < 8 → 0 < s → 0 < pop3 s := by decide
theorem pop_le : ∀ s, s < 8 → pop3 s ≤ 3 := by decide
theorem tab_bd {b : zWo} {R : Nat → Int32} {n : Nat} : ∀ {k : Nat}, k ≤ 8 → ∀ s p v, s < 8 → p < 64 → tabM b R n k s p = some v → (s < k ∧ 0 < s → v + 64 ≤ 128 * pop3 s) ∧ (k ≤ s ∨ s = 0 → v = 0)
  | 0, _, s, p, v, hs, hp, h => ⟨fun z => by omega, fun _ => bas_0 h⟩
  | k + 1, hk, s, p, v, hs, hp, h => by
    rcases Nat.eq_zero_or_pos k with e | e
    · subst e
      have h9 : basN b n (bpc b n) s p = some v := h
      exact ⟨fun z => by omega, fun _ => bas_0 h9⟩
    · rw [tab_step e] at h
      unfold tset at h
      by_cases z : s = k
      · subst z
        rw [if_pos rfl] at h
        refine ⟨fun _ => ?_, fun z => by omega⟩
        have hpp := pop_pos s hs e
        have := FPj_max (M := (128 * pop3 s - 128) + 0) clJ_FP (fun q u hq hu => jn_le (fun u hu => by have := (tab_bd (by omega) s q u hs hq hu).2 (Or.inl (Nat.le_refl _)); omega) (fun k u h0 hks hsub w hu hw => by
          have p1 := pop_sub s hs k (by omega) hsub (by omega)
          have p2 := pop_pos k (by omega) h0
          have p3 := pop_pos (s - k) (by omega) (by omega)
          have b1 := (tab_bd (by omega) k q u (by omega) hq hu).1 ⟨hks, h0⟩
          have b2 := (tab_bd (by omega) (s - k) q w (by omega) hq hw).1 ⟨by omega, by omega⟩
          omega) (Nat.le_refl _) hu) p v hp h
        omega
      · rw [if_neg z] at h
        have ih := tab_bd (by omega) s p v hs hp h
        exact ⟨fun y => ih.1 ⟨by omega, y.2⟩, fun y => ih.2 (by omega)⟩
theorem tab_400 {b : zWo} {R : Nat → Int32} {n k : Nat} (hk : k ≤ 8) : ∀ s p v, s < 8 → p < 64 → tabM b R n k s p = some v → v ≤ 400 := fun s p v hs hp h => by
  have h1 := tab_bd hk s p v hs hp h
  have h2 := pop_le s hs
  by_cases e : s < k ∧ 0 < s
  · have := h1.1 e; omega
  · have := h1.2 (by omega); omega
theorem shl_pow : ∀ k, k < 8 → nI 1 <<< (nI k &&& 31) = nI (2 ^ k) := by decide
theorem pow_lt8 : ∀ k, k < 3 → 2 ^ k < 8 := by decide
theorem FPj_congr {a D : Nat → Option Nat} {wl wl' : Nat → Bool} {ad ad' : Nat → Nat → Prop} (h : FPj a wl ad D) (hw : ∀ p, p < 64 → wl' p = wl p) (ha : ∀ e p, e < 64 → p < 64 → (ad' e p ↔ ad e p)) : FPj a wl' ad' D := by
  intro p hp
  obtain ⟨h1, h2, h3⟩ := h p hp
  rw [hw p hp]
  refine ⟨h1, fun q e x he had => h2 q e x he ((ha e p he hp).mp had), fun b hb => ?_⟩
  rcases h3 b hb with h | ⟨q, e, x, he, had, k⟩
  · exact Or.inl h
  · exact Or.inr ⟨q, e, x, he, (ha e p he hp).mpr had, k⟩
set_option maxHeartbeats 1000000 in
theorem k_X4_fewestPlaces (hl : l.stackTraces = false) (hd : 3 ≤ d) (hs : zSt g) {s n : Nat} {b : zWo} {R : Nat → Int32} (hst : zK g s 8 zLt_State) (hsN : 60 < s) (hn : n < 6) (hW : zWi I b) (hR : zRow I s R) : zEi l Xi mX4_fewestPlaces d [.ref 49, .ref s, .int (nI n)] I g (fun x J => x = fewM b R n ∧ sbJ I J) := by
  refine zC_of hl rfl rfl rfl (Nat.le_of_ble_eq_true rfl) (zav_r (zSt_ob hs 49 4 rfl).1 (zav_r hst.1.1 (zav_i zav_0))) ?_
  have hpc := (hW.2.1.2.2.2.2.2.2.1 n hn).1
  have hpc4 := (hW.2.1.2.2.2.2.2.2.1 n hn).2
  by_cases h1 : bpc b n ≤ 1
  · have e1 : fewM b R n = nI (bpc b n) := by unfold fewM; rw [if_pos h1]
    rw [e1]
    refine zJ_aload_n dX4_fewestPlaces_0 rfl ?_
    refine zP_getr lf_X4_22 (zSt_ob hs 49 4 rfl) rfl (zSt_rf hs 49 0 3 rfl) dX4_fewestPlaces_1 ?_
    refine zP_getr lf_X4_26 (zSt_ob hs 3 0 rfl) rfl (zSt_rf hs 3 6 6 rfl) dX4_fewestPlaces_4 ?_
    refine zJ_iload_n dX4_fewestPlaces_7 rfl ?_
    refine zP_iald (zSt_ar hs 6 6 rfl) (by first | assumption | with_reducible exact vp_in_nI (by omega) (by omega) | (simp (disch := omega) only [nI_add, pk_mul, pk_sub, pk_div, pk_rem, nI_clamp]; with_reducible exact vp_in_nI (by omega) (by omega))) dX4_fewestPlaces_8 ?_
    rw [nI_clamp (by omega), hpc]
    refine zJ_istore_m 3 dX4_fewestPlaces_9 rfl (Nat.le_of_ble_eq_true rfl) (by decide) ?_
    refine zJ_iload_n dX4_fewestPlaces_10 rfl ?_
    refine zJ_iconst (v := nI 1) dX4_fewestPlaces_11 rfl ?_
    refine zJ_icmp_gt 17 dX4_fewestPlaces_12 (by decide) (fun c12 => absurd c12 (fun z => by have := Int32.lt_iff_toInt_lt.mp z; rw [nI_toInt (by omega), nI_toInt (by omega)] at this; omega)) (fun _ => ?_)
    refine zJ_iload_n dX4_fewestPlaces_15 rfl ?_
    refine zJ_iret rfl dX4_fewestPlaces_16 ?_
    exact ⟨_, I, rfl, rfl, rfl, sbJ_rfl⟩
  · obtain ⟨k, hk⟩ : ∃ k, bpc b n = k + 2 := ⟨bpc b n - 2, by omega⟩
    have h2k : 2 ^ (k + 1) ≤ 8 := by
      have : k = 0 ∨ k = 1 ∨ k = 2 := by omega
      rcases this with rfl | rfl | rfl <;> decide
    have h2p : 1 ≤ 2 ^ (k + 1) := Nat.one_le_two_pow
    have e1 : fewM b R n = match tabM b R n (2 ^ (k + 1)) (2 ^ (k + 1) - 1) (bpn b n 0) with
      | none => -1
      | some v => nI (v + 1) := by unfold fewM; rw [if_neg h1, hk]; rfl
    rw [e1]
    obtain ⟨hroot, hr64⟩ := root_eq hW hn (by omega)
    rw [hk] at hpc
    have sets : ∀ m t, t + m = 2 ^ (k + 1) → ∀ (J : zI), (1 ≤ t ∧ sbJ I J ∧ sJ J (tabM b R n t)) → zJ l Xi mX4_fewestPlaces d 0 0 82 [some (.ref 49), some (.ref s), some (.int (nI n)), some (.int (nI (k + 2))), some (.int (nI (2 ^ (k + 1)))), some (.int (nI t))] [] (J, g) (fun r' h' => ∃ x I', r' = .inl (some (.int x)) ∧ h' = (I', g) ∧ (x = match tabM b R n (2 ^ (k + 1)) (2 ^ (k + 1) - 1) (bpn b n 0) with | none => -1 | some v => nI (v + 1)) ∧ sbJ I I') := by
      intro m
      induction m with
      | zero =>
        intro t hp J hI
        obtain rfl : t = 2 ^ (k + 1) := by omega
        refine zJ_iload dX4_fewestPlaces_82 rfl ?_
        refine zJ_iload dX4_fewestPlaces_84 rfl ?_
        refine zJ_icmp_ge 108 dX4_fewestPlaces_86 (by decide) (fun _ => ?_) (fun c86 => absurd (nI_le (by omega) (by omega)) c86)
        refine zJ_aload_n dX4_fewestPlaces_108 rfl ?_
        refine zP_getr lf_X4_18 (zSt_ob hs 49 4 rfl) rfl (zSt_rf hs 49 2 52 rfl) dX4_fewestPlaces_109 ?_
        refine zJ_iload dX4_fewestPlaces_112 rfl ?_
        refine zJ_iconst (v := nI 1) dX4_fewestPlaces_114 rfl ?_
        refine zJ_isub dX4_fewestPlaces_115 ?_
        rw [pk_sub h2p]
        refine zJ_bipush (v := nI 64) dX4_fewestPlaces_116 rfl ?_
        refine zJ_imul dX4_fewestPlaces_118 ?_
        refine zJ_aload_n dX4_fewestPlaces_119 rfl ?_
        refine zP_getr lf_X4_22 (zSt_ob hs 49 4 rfl) rfl (zSt_rf hs 49 0 3 rfl) dX4_fewestPlaces_120 ?_
        refine zJ_iload_n dX4_fewestPlaces_123 rfl ?_
        refine zP_callVi [_] _ lv_X4_48 (k_X0_rootOf (d := d - 1) hl (by omega) (zSt_board hs) hn) (zSt_ob hs 3 0 rfl) rfl (by omega) (Nat.le_of_ble_eq_true rfl) rfl dX4_fewestPlaces_124 ?_
        rw [show J (3 + 4) = I (3 + 4) from hI.2.1 _ (by decide) (by decide) (by decide), hroot]
        refine zJ_iadd dX4_fewestPlaces_127 ?_
        refine zP_iald (zSt_ar hs 52 512 rfl) (by first | assumption | with_reducible exact vp_in_nI (by omega) (by omega) | (simp (disch := omega) only [nI_add, pk_mul, pk_sub, pk_div, pk_rem, nI_clamp]; with_reducible exact vp_in_nI (by omega) (by omega))) dX4_fewestPlaces_128 ?_
        simp (disch := omega) only [nI_add, pk_mul, nI_clamp]
        rw [hI.2.2 (2 ^ (k + 1) - 1) (bpn b n 0) (by omega) hr64]
        refine zJ_istore dX4_fewestPlaces_129 (Nat.le_of_ble_eq_true rfl) (by decide) ?_
        refine zJ_iload dX4_fewestPlaces_131 rfl ?_
        refine zJ_sipush (v := nI 1000) dX4_fewestPlaces_133 rfl ?_
        refine zJ_icmp_lt 143 dX4_fewestPlaces_136 (by decide) (fun c136 => ?_) (fun c136 => ?_)
        · skip
          refine zJ_iload dX4_fewestPlaces_143 rfl ?_
          refine zJ_iconst (v := nI 1) dX4_fewestPlaces_145 rfl ?_
          refine zJ_iadd dX4_fewestPlaces_146 ?_
          refine zJ_iret rfl dX4_fewestPlaces_147 ?_
          refine ⟨_, J, rfl, rfl, ?_, hI.2.1⟩
          cases e : tabM b R n (2 ^ (k + 1)) (2 ^ (k + 1) - 1) (bpn b n 0) with
          | none => rw [e] at c136; exact absurd c136 (by decide)
          | some v => exact nI_add v 1
        · skip
          refine zJ_iconst (v := -1) dX4_fewestPlaces_139 rfl ?_
          refine zJ_goto 147 dX4_fewestPlaces_140 (by decide) ?_
          refine zJ_iret rfl dX4_fewestPlaces_147 ?_
          refine ⟨_, J, rfl, rfl, ?_, hI.2.1⟩
          cases e : tabM b R n (2 ^ (k + 1)) (2 ^ (k + 1) - 1) (bpn b n 0) with
          | none => rfl
          | some v =>
            rw [e] at c136
            have := tab_400 (by omega) _ _ v (by omega) hr64 e
            exact absurd (nI_lt (show v < 1000 by omega) (by omega)) c136
      | succ m ih =>
        intro t hp J hI
        obtain ⟨ht1, hsb, htab⟩ := hI
        have hWJ : zWi J b := by { have e : ∀ a, a < 24 → J a = I a := fun a ha => hsb a (by omega) (by omega) (by omega); unfold zWi zBd at *; rw [e 3 (by omega), e (3 + 3) (by omega), e (3 + 4) (by omega), e 5 (by omega), e 9 (by omega), e 8 (by omega), e 11 (by omega), e 21 (by omega), e 23 (by omega)]; exact hW }
        have hRJ : zRow J s R := zRow_of hR (fun a q1 q2 => hsb a (by omega) (by omega) (by omega))
        have hjn : ∀ p v, p < 64 → jnN (tabM b R n t) t t p = some v → v ≤ 400 + 400 := fun p v hp h => jn_le (fun u hu => by have := tab_400 (by omega) t p u (by omega) hp hu; omega) (fun k u h0 hk2 _ w hu hw => by have := tab_400 (by omega) k p u (by omega) hp hu; have := tab_400 (by omega) (t - k) p w (by omega) hp hw; omega) (Nat.le_refl _) h
        refine zJ_iload dX4_fewestPlaces_82 rfl ?_
        refine zJ_iload dX4_fewestPlaces_84 rfl ?_
        refine zJ_icmp_ge 108 dX4_fewestPlaces_86 (by decide) (fun c86 => absurd c86 (nI_ge (by omega) (by omega))) (fun _ => ?_)
        refine zJ_aload_n dX4_fewestPlaces_89 rfl ?_
        refine zJ_iload dX4_fewestPlaces_90 rfl ?_
        refine zP_ecallVv [_] _ lv_X4_40 (k_X4_joinParts (d := d - 1) hl (by omega) hs ht1 (by omega) htab (tab_400 (by omega))) (zSt_ob hs 49 4 rfl) rfl (by omega) (Nat.le_of_ble_eq_true rfl) rfl dX4_fewestPlaces_92 (fun J1 hJ1 => ?_)
        obtain ⟨f, rfl, hf⟩ := hJ1
        have hsb1 : sbJ I (va_up J 52 f) := sbJ_up hsb (by decide)
        have r11 : va_up J 52 f 11 = J 11 := va_up_row (by decide)
        have r4 : va_up J 52 f (s + 4) = J (s + 4) := va_up_row (by omega)
        have hFPj : FPj (jnN (tabM b R n t) t t) (wlB (va_up J 52 f (s + 4))) (adB (va_up J 52 f 11)) (clJ (jnN (tabM b R n t) t t) (wlR R) (adM b)) := by { rw [r11, r4]; exact FPj_congr clJ_FP (fun p hp => wl_eq hRJ hp) (fun e p he hp => ad_eq hWJ he) }
        refine zJ_aload_n dX4_fewestPlaces_95 rfl ?_
        refine zJ_aload_n dX4_fewestPlaces_96 rfl ?_
        refine zJ_iload dX4_fewestPlaces_97 rfl ?_
        refine zP_ecallVv [_, _] _ lv_X4_44 (k_X4_stepOn (d := d - 1) (M := 800) hl (by omega) hs hst hsN (by omega) (by rw [r11]; exact bok_W hWJ) hf hjn (by omega) hFPj) (zSt_ob hs 49 4 rfl) rfl (by omega) (Nat.le_of_ble_eq_true rfl) rfl dX4_fewestPlaces_99 (fun J2 hJ2 => ?_)
        refine zJ_iinc1 dX4_fewestPlaces_102 rfl (by decide) ?_
        refine zJ_goto 82 dX4_fewestPlaces_105 (by decide) ?_
        refine zJ_back (zle_r (zle_r (zle_r (zle_r (zle_r (zle_r zle_0)))))) rfl (ih (t + 1) (by omega) J2 ⟨by omega, sbJ_trans hsb1 hJ2.1, ?_⟩)
        rw [tab_step (by omega)]
        exact hJ2.2
    have base : ∀ m i, i + m = k + 2 → ∀ (J : zI), (1 ≤ i ∧ sbJ I J ∧ sJ J (basN b n i)) → zJ l Xi mX4_fewestPlaces d 0 0 30 [some (.ref 49), some (.ref s), some (.int (nI n)), some (.int (nI (k + 2))), some (.int (nI i)), none] [] (J, g) (fun r' h' => ∃ x I', r' = .inl (some (.int x)) ∧ h' = (I', g) ∧ (x = match tabM b R n (2 ^ (k + 1)) (2 ^ (k + 1) - 1) (bpn b n 0) with | none => -1 | some v => nI (v + 1)) ∧ sbJ I I') := by
      intro m
      induction m with
      | zero =>
        intro i hp J hI
        obtain rfl : i = k + 2 := by omega
        refine zJ_iload dX4_fewestPlaces_30 rfl ?_
        refine zJ_iload_n dX4_fewestPlaces_32 rfl ?_
        refine zJ_icmp_ge 72 dX4_fewestPlaces_33 (by decide) (fun _ => ?_) (fun c33 => absurd (nI_le (by omega) (by omega)) c33)
        refine zJ_iconst (v := nI 1) dX4_fewestPlaces_72 rfl ?_
        refine zJ_iload_n dX4_fewestPlaces_73 rfl ?_
        refine zJ_iconst (v := nI 1) dX4_fewestPlaces_74 rfl ?_
        refine zJ_isub dX4_fewestPlaces_75 ?_
        rw [pk_sub (by omega), show k + 2 - 1 = k + 1 from rfl]
        refine zJ_ishl dX4_fewestPlaces_76 ?_
        rw [shl_pow (k + 1) (by omega)]
        refine zJ_istore dX4_fewestPlaces_77 (Nat.le_of_ble_eq_true rfl) (by decide) ?_
        refine zJ_iconst (v := nI 1) dX4_fewestPlaces_79 rfl ?_
        refine zJ_istore dX4_fewestPlaces_80 (Nat.le_of_ble_eq_true rfl) (by decide) ?_
        refine zJ_back (zle_r (zle_r (zle_r (zle_r (zle_r (zle_r zle_0)))))) rfl (sets (2 ^ (k + 1) - 1) 1 (by omega) J ⟨Nat.le_refl 1, hI.2.1, ?_⟩)
        have h9 : tabM b R n 1 = basN b n (bpc b n) := rfl
        rw [h9, hk]
        exact hI.2.2
      | succ m ih =>
        intro i hp J hI
        obtain ⟨hi1, hsb, hbas⟩ := hI
        have hpin := hW.2.1.2.2.2.2.2.2.2 n i hn (by omega)
        have hpw : 2 ^ (i - 1) < 8 := pow_lt8 (i - 1) (by omega)
        refine zJ_iload dX4_fewestPlaces_30 rfl ?_
        refine zJ_iload_n dX4_fewestPlaces_32 rfl ?_
        refine zJ_icmp_ge 72 dX4_fewestPlaces_33 (by decide) (fun c33 => absurd c33 (nI_ge (by omega) (by omega))) (fun _ => ?_)
        refine zJ_aload_n dX4_fewestPlaces_36 rfl ?_
        refine zP_getr lf_X4_18 (zSt_ob hs 49 4 rfl) rfl (zSt_rf hs 49 2 52 rfl) dX4_fewestPlaces_37 ?_
        refine zJ_iconst (v := nI 1) dX4_fewestPlaces_40 rfl ?_
        refine zJ_iload dX4_fewestPlaces_41 rfl ?_
        refine zJ_iconst (v := nI 1) dX4_fewestPlaces_43 rfl ?_
        refine zJ_isub dX4_fewestPlaces_44 ?_
        rw [pk_sub (by omega)]
        refine zJ_ishl dX4_fewestPlaces_45 ?_
        rw [shl_pow (i - 1) (by omega)]
        refine zJ_bipush (v := nI 64) dX4_fewestPlaces_46 rfl ?_
        refine zJ_imul dX4_fewestPlaces_48 ?_
        refine zJ_aload_n dX4_fewestPlaces_49 rfl ?_
        refine zP_getr lf_X4_22 (zSt_ob hs 49 4 rfl) rfl (zSt_rf hs 49 0 3 rfl) dX4_fewestPlaces_50 ?_
        refine zP_getr lf_X4_37 (zSt_ob hs 3 0 rfl) rfl (zSt_rf hs 3 7 7 rfl) dX4_fewestPlaces_53 ?_
        refine zJ_iload_n dX4_fewestPlaces_56 rfl ?_
        refine zJ_iconst (v := nI 4) dX4_fewestPlaces_57 rfl ?_
        refine zJ_imul dX4_fewestPlaces_58 ?_
        refine zJ_iload dX4_fewestPlaces_59 rfl ?_
        refine zJ_iadd dX4_fewestPlaces_61 ?_
        refine zP_iald (zSt_ar hs 7 24 rfl) (by first | assumption | with_reducible exact vp_in_nI (by omega) (by omega) | (simp (disch := omega) only [nI_add, pk_mul, pk_sub, pk_div, pk_rem, nI_clamp]; with_reducible exact vp_in_nI (by omega) (by omega))) dX4_fewestPlaces_62 ?_
        simp (disch := omega) only [nI_add, pk_mul, nI_clamp]
        rw [show J (3 + 4) = I (3 + 4) from hsb _ (by decide) (by decide) (by decide), hpin.1]
        refine zJ_iadd dX4_fewestPlaces_63 ?_
        rw [nI_add]
        refine zJ_iconst (v := nI 0) dX4_fewestPlaces_64 rfl ?_
        refine zP_iast (zSt_ar hs 52 512 rfl) (by first | assumption | with_reducible exact vp_in_nI (by omega) (by omega) | (simp (disch := omega) only [nI_add, pk_mul, pk_sub, pk_div, pk_rem, nI_clamp]; with_reducible exact vp_in_nI (by omega) (by omega))) dX4_fewestPlaces_65 ?_
        refine zJ_iinc1 dX4_fewestPlaces_66 rfl (by decide) ?_
        refine zJ_goto 30 dX4_fewestPlaces_69 (by decide) ?_
        rw [nI_clamp (by omega)]
        refine zJ_back (zle_r (zle_r (zle_r (zle_r (zle_r (zle_n zle_0)))))) rfl (ih (i + 1) (by omega) _ ⟨by omega, sbJ_zup hsb (by decide), fun s2 p hs2 hp => ?_⟩)
        rw [zup_same, bas_step (by omega)]
        by_cases e : s2 * 64 + p = 2 ^ (i - 1) * 64 + bpn b n i
        · have h9 := hpin.2
          obtain ⟨e5, e6⟩ : s2 = 2 ^ (i - 1) ∧ p = bpn b n i := by omega
          rw [e, upd_at]
          simp only [e5, e6, and_self, if_true]
          rfl
        · rw [upd_ne e]
          simp only
          rw [if_neg (fun z => e (by rw [z.1, z.2]))]
          exact hbas s2 p hs2 hp
    refine zJ_aload_n dX4_fewestPlaces_0 rfl ?_
    refine zP_getr lf_X4_22 (zSt_ob hs 49 4 rfl) rfl (zSt_rf hs 49 0 3 rfl) dX4_fewestPlaces_1 ?_
    refine zP_getr lf_X4_26 (zSt_ob hs 3 0 rfl) rfl (zSt_rf hs 3 6 6 rfl) dX4_fewestPlaces_4 ?_
    refine zJ_iload_n dX4_fewestPlaces_7 rfl ?_
    refine zP_iald (zSt_ar hs 6 6 rfl) (by first | assumption | with_reducible exact vp_in_nI (by omega) (by omega) | (simp (disch := omega) only [nI_add, pk_mul, pk_sub, pk_div, pk_rem, nI_clamp]; with_reducible exact vp_in_nI (by omega) (by omega))) dX4_fewestPlaces_8 ?_
    rw [nI_clamp (by omega), hpc]
    refine zJ_istore_m 3 dX4_fewestPlaces_9 rfl (Nat.le_of_ble_eq_true rfl) (by decide) ?_
    refine zJ_iload_n dX4_fewestPlaces_10 rfl ?_
    refine zJ_iconst (v := nI 1) dX4_fewestPlaces_11 rfl ?_
    refine zJ_icmp_gt 17 dX4_fewestPlaces_12 (by decide) (fun _ => ?_) (fun c12 => absurd (nI_lt (by omega) (by omega)) c12)
    refine zJ_aload_n dX4_fewestPlaces_17 rfl ?_
    refine zP_getr lf_X4_18 (zSt_ob hs 49 4 rfl) rfl (zSt_rf hs 49 2 52 rfl) dX4_fewestPlaces_18 ?_
    refine zJ_sipush (v := nI 1000) dX4_fewestPlaces_21 rfl ?_
    refine zP_callSv [_, _] _ ls_X4_31 (k_fill (d := d - 1) hl (by omega) (zSt_ar hs 52 512 rfl) (by omega)) rfl (by omega) (Nat.le_of_ble_eq_true rfl) rfl dX4_fewestPlaces_24 ?_
    refine zJ_iconst (v := nI 1) dX4_fewestPlaces_27 rfl ?_
    refine zJ_istore dX4_fewestPlaces_28 (Nat.le_of_ble_eq_true rfl) (by decide) ?_
    refine base (k + 1) 1 (by omega) _ ⟨Nat.le_refl 1, sbJ_up sbJ_rfl (by decide), fun s2 p hs2 hp => ?_⟩
    rw [va_up_same]
    have h9 : basN b n 1 s2 p = none := rfl
    rw [h9]
    unfold fillR
    rw [if_pos (by omega)]
    rfl
end ZJoin4
