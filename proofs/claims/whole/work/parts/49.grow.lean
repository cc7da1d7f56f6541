/-! ===== Router: laying ===== -/
section ZGrow
variable {l : Launch} {Xi : zXi} {d : Nat} {I : zI} {g : zG}
theorem np_congr {b : zWo} {T T' : Nat → Bool} {D D' : Nat → Option Nat} {n : Nat} : ∀ {k : Nat}, (∀ i, i < k → T (bpn b n i) = T' (bpn b n i) ∧ D (bpn b n i) = D' (bpn b n i)) → npM b T D n k = npM b T' D' n k
  | 0, _ => rfl
  | k + 1, h => by
    unfold npM
    rw [(h k (by omega)).1, (h k (by omega)).2, np_congr (fun i hi => h i (by omega))]
theorem np_in {b : zWo} {T : Nat → Bool} {D : Nat → Option Nat} {n : Nat} : ∀ {k q u : Nat}, npM b T D n k = some (q, u) → T q = false ∧ D q = some u ∧ ∃ i, i < k ∧ bpn b n i = q
  | 0, q, u, h => by cases h
  | k + 1, q, u, h => by
    have ih : npM b T D n k = some (q, u) → T q = false ∧ D q = some u ∧ ∃ i, i < k + 1 ∧ bpn b n i = q := fun z => by
      obtain ⟨h1, h2, i, h3, h4⟩ := np_in z
      exact ⟨h1, h2, i, by omega, h4⟩
    unfold npM at h
    cases hT : T (bpn b n k) with
    | true => rw [hT] at h; exact ih h
    | false =>
      rw [hT] at h
      simp only [Bool.false_eq_true, if_false] at h
      cases hD : D (bpn b n k) with
      | none => rw [hD] at h; exact ih h
      | some v =>
        rw [hD] at h
        simp only at h
        cases hA : npM b T D n k with
        | none =>
          rw [hA] at h
          simp only [Option.some.injEq, Prod.mk.injEq] at h
          obtain ⟨rfl, rfl⟩ := h
          exact ⟨hT, hD, k, by omega, rfl⟩
        | some a =>
          rw [hA] at h ih
          simp only at h
          split at h
          · simp only [Option.some.injEq, Prod.mk.injEq] at h
            obtain ⟨rfl, rfl⟩ := h
            exact ⟨hT, hD, k, by omega, rfl⟩
          · exact ih (by rw [← h])
theorem np_step {b : zWo} {T : Nat → Bool} {D : Nat → Option Nat} {n k : Nat} : npM b T D n (k + 1) = if T (bpn b n k) then npM b T D n k else match D (bpn b n k) with
    | none => npM b T D n k
    | some v => match npM b T D n k with
      | none => some (bpn b n k, v)
      | some (q, u) => if v < u then some (bpn b n k, v) else some (q, u) := rfl
theorem np_le {b : zWo} {T : Nat → Bool} {D : Nat → Option Nat} {n i v : Nat} (hT : T (bpn b n i) = false) (hD : D (bpn b n i) = some v) : ∀ {k : Nat}, i < k → ∃ q u, npM b T D n k = some (q, u) ∧ u ≤ v
  | 0, h => by omega
  | k + 1, h => by
    rw [np_step]
    by_cases e : i = k
    · subst e
      rw [hT, hD]
      simp only [Bool.false_eq_true, if_false]
      cases hA : npM b T D n i with
      | none => exact ⟨_, _, rfl, Nat.le_refl _⟩
      | some a =>
        obtain ⟨q, u⟩ := a
        simp only
        split
        · exact ⟨_, _, rfl, Nat.le_refl _⟩
        · exact ⟨_, _, rfl, by omega⟩
    · obtain ⟨q, u, h1, h2⟩ := np_le hT hD (show i < k by omega)
      rw [h1]
      split
      · exact ⟨q, u, rfl, h2⟩
      · split
        · exact ⟨q, u, rfl, h2⟩
        · simp only
          split
          · exact ⟨_, _, rfl, by omega⟩
          · exact ⟨_, _, rfl, h2⟩
theorem np_FD {b : zWo} {T : Nat → Bool} {D F : Nat → Option Nat} {n m : Nat} (h64 : ∀ i, i < bpc b n → bpn b n i < 64) (h1 : ∀ p v, p < 64 → D p = some v → v ≤ m → F p = some v) (h2 : ∀ p v, p < 64 → F p = some v → ∃ v', D p = some v' ∧ v' ≤ v) : ∀ {k : Nat}, k ≤ bpc b n → (∃ q u, npM b T F n k = some (q, u) ∧ npM b T D n k = some (q, u) ∧ u ≤ m) ∨ ((∀ q u, npM b T F n k = some (q, u) → m < u) ∧ ∀ q u, npM b T D n k = some (q, u) → m < u)
  | 0, _ => Or.inr ⟨fun q u h => (by cases h), fun q u h => (by cases h)⟩
  | k + 1, hk => by
    have ih := np_FD h64 h1 h2 (show k ≤ bpc b n by omega) (T := T)
    have hp := h64 k (by omega)
    rw [np_step, np_step]
    cases hT : T (bpn b n k) with
    | true => exact ih
    | false =>
      simp only [Bool.false_eq_true, if_false]
      cases hD : D (bpn b n k) with
      | none =>
        have hF : F (bpn b n k) = none := by
          cases e : F (bpn b n k) with
          | none => rfl
          | some v => obtain ⟨v', h3, -⟩ := h2 _ v hp e; rw [hD] at h3; cases h3
        rw [hF]
        exact ih
      | some v =>
        rcases Nat.lt_or_ge m v with z | z
        · -- too far for both
          rcases ih with ⟨q, u, i1, i2, i3⟩ | ⟨i1, i2⟩
          · refine Or.inl ⟨q, u, ?_, ?_, i3⟩
            · rw [i1]
              cases e : F (bpn b n k) with
              | none => rfl
              | some w =>
                obtain ⟨v', h3, h4⟩ := h2 _ w hp e
                rw [hD] at h3; cases h3
                simp only
                rw [if_neg (by omega)]
            · rw [i2]
              simp only
              rw [if_neg (by omega)]
          · refine Or.inr ⟨fun q u h => ?_, fun q u h => ?_⟩
            · cases e : F (bpn b n k) with
              | none => rw [e] at h; exact i1 q u h
              | some w =>
                obtain ⟨v', h3, h4⟩ := h2 _ w hp e
                rw [hD] at h3; cases h3
                rw [e] at h
                simp only at h
                cases hA : npM b T F n k with
                | none =>
                  rw [hA] at h
                  simp only [Option.some.injEq, Prod.mk.injEq] at h
                  omega
                | some a =>
                  obtain ⟨q1, u1⟩ := a
                  have := i1 q1 u1 hA
                  rw [hA] at h
                  simp only at h
                  split at h
                  · simp only [Option.some.injEq, Prod.mk.injEq] at h
                    omega
                  · simp only [Option.some.injEq, Prod.mk.injEq] at h
                    omega
            · simp only at h
              cases hA : npM b T D n k with
              | none =>
                rw [hA] at h
                simp only [Option.some.injEq, Prod.mk.injEq] at h
                omega
              | some a =>
                obtain ⟨q1, u1⟩ := a
                have := i2 q1 u1 hA
                rw [hA] at h
                simp only at h
                split at h
                · simp only [Option.some.injEq, Prod.mk.injEq] at h
                  omega
                · simp only [Option.some.injEq, Prod.mk.injEq] at h
                  omega
        · have hF := h1 _ v hp hD z
          rw [hF]
          simp only
          rcases ih with ⟨q, u, i1, i2, i3⟩ | ⟨i1, i2⟩
          · rw [i1, i2]
            simp only
            by_cases e : v < u
            · rw [if_pos e]; exact Or.inl ⟨_, _, rfl, rfl, z⟩
            · rw [if_neg e]; exact Or.inl ⟨_, _, rfl, rfl, i3⟩
          · refine Or.inl ⟨bpn b n k, v, ?_, ?_, z⟩
            · cases hA : npM b T F n k with
              | none => rfl
              | some a =>
                obtain ⟨q1, u1⟩ := a
                have := i1 q1 u1 hA
                simp only
                rw [if_pos (by omega)]
            · cases hA : npM b T D n k with
              | none => rfl
              | some a =>
                obtain ⟨q1, u1⟩ := a
                have := i2 q1 u1 hA
                simp only
                rw [if_pos (by omega)]
theorem enc_lt {o : Option Nat} {v : Nat} (hv : v ≤ 64000) (ho : ∀ u, o = some u → u ≤ 64000) : nI v < enc o ↔ ∀ u, o = some u → v < u := by
  rw [Int32.lt_iff_toInt_lt, nI_toInt (by omega)]
  cases o with
  | none => rw [show (enc none).toInt = 1000000 by decide]; exact ⟨fun _ u h => (by cases h), fun _ => (by omega)⟩
  | some u =>
    have := ho u rfl
    show (v : Int) < (nI u).toInt ↔ _
    rw [nI_toInt (by omega)]
    exact ⟨fun h w hw => by cases hw; omega, fun h => by have := h u rfl; omega⟩
theorem k_X6_nearestPin (hl : l.stackTraces = false) (hd : 2 ≤ d) (hs : zSt g) {s n : Nat} {b : zWo} {R : Nat → Int32} {F : Nat → Option Nat} (hst : zK g s 8 zLt_State) (hn : n < 6) (hW : zWi I b) (hR : zRow I s R) (hF : ∀ q, q < 64 → I 46 q = enc (F q)) (hF2 : ∀ q v, q < 64 → F q = some v → v ≤ 64000) : zD l Xi mX6_nearestPin d [.ref 43, .ref s, .int (nI n)] I g (some (.int (oI ((npM b (tin R n) F n (bpc b n)).map Prod.fst)))) I := by
  refine zC_of hl rfl rfl rfl (Nat.le_of_ble_eq_true rfl) (zav_r (zSt_ob hs 43 6 rfl).1 (zav_r hst.1.1 (zav_i zav_0))) ?_
  have hpc := (hW.2.1.2.2.2.2.2.2.1 n hn).1
  have hpc4 := (hW.2.1.2.2.2.2.2.2.1 n hn).2
  have loop : ∀ m p, p + m = bpc b n → zJ l Xi mX6_nearestPin d 0 0 9 [some (.ref 43), some (.ref s), some (.int (nI n)), some (.int (oI ((npM b (tin R n) F n p).map Prod.fst))), some (.int (enc ((npM b (tin R n) F n p).map Prod.snd))), some (.int (nI p)), none] [] (I, g) (fun r' h' => r' = .inl (some (.int (oI ((npM b (tin R n) F n (bpc b n)).map Prod.fst)))) ∧ h' = (I, g)) := by
    intro m
    induction m with
    | zero =>
      intro p hp
      obtain rfl : p = bpc b n := by omega
      refine zJ_iload dX6_nearestPin_9 rfl ?_
      refine zJ_aload_n dX6_nearestPin_11 rfl ?_
      refine zP_getr lf_X6_28 (zSt_ob hs 43 6 rfl) rfl (zSt_rf hs 43 0 3 rfl) dX6_nearestPin_12 ?_
      refine zP_getr lf_X6_67 (zSt_ob hs 3 0 rfl) rfl (zSt_rf hs 3 6 6 rfl) dX6_nearestPin_15 ?_
      refine zJ_iload_n dX6_nearestPin_18 rfl ?_
      refine zP_iald (zSt_ar hs 6 6 rfl) (by first | assumption | with_reducible exact vp_in_nI (by omega) (by omega) | (simp (disch := omega) only [nI_add, pk_mul, pk_sub, pk_div, pk_rem, nI_clamp]; with_reducible exact vp_in_nI (by omega) (by omega))) dX6_nearestPin_19 ?_
      refine zJ_icmp_ge 79 dX6_nearestPin_20 (by decide) (fun _ => ?_) (fun c20 => absurd (by rw [nI_clamp (by omega), hpc]; exact nI_le (by omega) (by omega)) c20)
      refine zJ_iload_n dX6_nearestPin_79 rfl ?_
      refine zJ_iret rfl dX6_nearestPin_80 ?_
      exact ⟨rfl, rfl⟩
    | succ m ih =>
      intro p hp
      have hpin := hW.2.1.2.2.2.2.2.2.2 n p hn (by omega)
      have hstep := np_step (b := b) (T := tin R n) (D := F) (n := n) (k := p)
      have IH := ih (p + 1) (by omega)
      rw [hstep] at IH
      refine zJ_iload dX6_nearestPin_9 rfl ?_
      refine zJ_aload_n dX6_nearestPin_11 rfl ?_
      refine zP_getr lf_X6_28 (zSt_ob hs 43 6 rfl) rfl (zSt_rf hs 43 0 3 rfl) dX6_nearestPin_12 ?_
      refine zP_getr lf_X6_67 (zSt_ob hs 3 0 rfl) rfl (zSt_rf hs 3 6 6 rfl) dX6_nearestPin_15 ?_
      refine zJ_iload_n dX6_nearestPin_18 rfl ?_
      refine zP_iald (zSt_ar hs 6 6 rfl) (by first | assumption | with_reducible exact vp_in_nI (by omega) (by omega) | (simp (disch := omega) only [nI_add, pk_mul, pk_sub, pk_div, pk_rem, nI_clamp]; with_reducible exact vp_in_nI (by omega) (by omega))) dX6_nearestPin_19 ?_
      refine zJ_icmp_ge 79 dX6_nearestPin_20 (by decide) (fun c20 => absurd c20 (by rw [nI_clamp (by omega), hpc]; exact nI_ge (by omega) (by omega))) (fun _ => ?_)
      refine zJ_aload_n dX6_nearestPin_23 rfl ?_
      refine zP_getr lf_X6_28 (zSt_ob hs 43 6 rfl) rfl (zSt_rf hs 43 0 3 rfl) dX6_nearestPin_24 ?_
      refine zP_getr lf_X6_181 (zSt_ob hs 3 0 rfl) rfl (zSt_rf hs 3 7 7 rfl) dX6_nearestPin_27 ?_
      refine zJ_iload_n dX6_nearestPin_30 rfl ?_
      refine zJ_iconst (v := nI 4) dX6_nearestPin_31 rfl ?_
      refine zJ_imul dX6_nearestPin_32 ?_
      refine zJ_iload dX6_nearestPin_33 rfl ?_
      refine zJ_iadd dX6_nearestPin_35 ?_
      refine zP_iald (zSt_ar hs 7 24 rfl) (by first | assumption | with_reducible exact vp_in_nI (by omega) (by omega) | (simp (disch := omega) only [nI_add, pk_mul, pk_sub, pk_div, pk_rem, nI_clamp]; with_reducible exact vp_in_nI (by omega) (by omega))) dX6_nearestPin_36 ?_
      simp (disch := omega) only [nI_add, pk_mul, nI_clamp]
      rw [hpin.1]
      refine zJ_istore dX6_nearestPin_37 (Nat.le_of_ble_eq_true rfl) (by decide) ?_
      refine zJ_aload_n dX6_nearestPin_39 rfl ?_
      refine zJ_iload_n dX6_nearestPin_40 rfl ?_
      refine zJ_iload dX6_nearestPin_41 rfl ?_
      refine zP_callVi [_, _] _ lv_X6_127 (k_has (d := d - 1) hl (by omega) hst hn hpin.2) hst.1 rfl (by omega) (Nat.le_of_ble_eq_true rfl) rfl dX6_nearestPin_43 ?_
      rw [zRow_has hR hn hpin.2]
      refine zJ_if_ne 73 dX6_nearestPin_46 (by decide) (fun c46 => ?_) (fun c46 => ?_)
      · replace c46 := zb1.mp c46
        refine zJ_iinc1 dX6_nearestPin_73 rfl (by decide) ?_
        refine zJ_goto 9 dX6_nearestPin_76 (by decide) ?_
        rw [c46] at IH
        exact zJ_back (zle_r (zle_r (zle_r (zle_r (zle_r (zle_r (zle_n zle_0))))))) rfl IH
      · replace c46 := zb0.mp c46
        refine zJ_aload_n dX6_nearestPin_49 rfl ?_
        refine zP_getr lf_X6_18 (zSt_ob hs 43 6 rfl) rfl (zSt_rf hs 43 4 46 rfl) dX6_nearestPin_50 ?_
        refine zJ_iload dX6_nearestPin_53 rfl ?_
        refine zP_iald (zSt_ar hs 46 64 rfl) (by first | assumption | with_reducible exact vp_in_nI (by omega) (by omega) | (simp (disch := omega) only [nI_add, pk_mul, pk_sub, pk_div, pk_rem, nI_clamp]; with_reducible exact vp_in_nI (by omega) (by omega))) dX6_nearestPin_55 ?_
        refine zJ_iload dX6_nearestPin_56 rfl ?_
        rw [nI_clamp (by omega), hF _ hpin.2]
        refine zJ_icmp_ge 73 dX6_nearestPin_58 (by decide) (fun c58 => ?_) (fun c58 => ?_)
        · skip
          refine zJ_iinc1 dX6_nearestPin_73 rfl (by decide) ?_
          refine zJ_goto 9 dX6_nearestPin_76 (by decide) ?_
          rw [c46] at IH
          simp only [Bool.false_eq_true, if_false] at IH
          cases hFp : F (bpn b n p) with
          | none =>
            rw [hFp] at IH
            exact zJ_back (zle_r (zle_r (zle_r (zle_r (zle_r (zle_r (zle_n zle_0))))))) rfl IH
          | some v =>
            rw [hFp] at IH c58
            have hv := hF2 _ v hpin.2 hFp
            cases hA : npM b (tin R n) F n p with
            | none =>
              rw [hA] at c58
              exact absurd c58 (by
                have := (enc_lt (o := none) hv (fun u h => by cases h)).mpr (fun u h => by cases h)
                exact fun z => by
                  have h1 := Int32.lt_iff_toInt_lt.mp this
                  have h2 := Int32.le_iff_toInt_le.mp z
                  have h3 : (enc (some v)).toInt = (nI v).toInt := rfl
                  have h4 : (enc (Option.map Prod.snd (none : Option (Nat × Nat)))).toInt = (enc none).toInt := rfl
                  omega)
            | some a =>
              obtain ⟨q, u⟩ := a
              have hu := hF2 _ u (by obtain ⟨-, -, i, hi, e⟩ := np_in hA; rw [← e]; exact (hW.2.1.2.2.2.2.2.2.2 n i hn (by omega)).2) (np_in hA).2.1
              rw [hA] at c58 IH
              simp only at IH
              have : ¬ v < u := fun z => by
                have h2 := (nI_leI (by omega) (by omega)).mp (show nI u ≤ nI v from c58)
                omega
              rw [if_neg this] at IH
              rw [← hA] at IH
              rw [hA] at IH
              exact zJ_back (zle_r (zle_r (zle_r (zle_r (zle_r (zle_r (zle_n zle_0))))))) rfl IH
        · skip
          refine zJ_iload dX6_nearestPin_61 rfl ?_
          refine zJ_istore_m 3 dX6_nearestPin_63 rfl (Nat.le_of_ble_eq_true rfl) (by decide) ?_
          refine zJ_aload_n dX6_nearestPin_64 rfl ?_
          refine zP_getr lf_X6_18 (zSt_ob hs 43 6 rfl) rfl (zSt_rf hs 43 4 46 rfl) dX6_nearestPin_65 ?_
          refine zJ_iload dX6_nearestPin_68 rfl ?_
          refine zP_iald (zSt_ar hs 46 64 rfl) (by first | assumption | with_reducible exact vp_in_nI (by omega) (by omega) | (simp (disch := omega) only [nI_add, pk_mul, pk_sub, pk_div, pk_rem, nI_clamp]; with_reducible exact vp_in_nI (by omega) (by omega))) dX6_nearestPin_70 ?_
          rw [nI_clamp (by omega), hF _ hpin.2]
          refine zJ_istore dX6_nearestPin_71 (Nat.le_of_ble_eq_true rfl) (by decide) ?_
          refine zJ_iinc1 dX6_nearestPin_73 rfl (by decide) ?_
          refine zJ_goto 9 dX6_nearestPin_76 (by decide) ?_
          rw [c46] at IH
          simp only [Bool.false_eq_true, if_false] at IH
          cases hFp : F (bpn b n p) with
          | none =>
            rw [hFp] at c58
            refine absurd (Int32.le_iff_toInt_le.mpr ?_) c58
            rw [show (enc none).toInt = 1000000 by decide]
            cases hA : npM b (tin R n) F n p with
            | none => exact Int.le_of_eq (show (enc none).toInt = 1000000 by decide)
            | some a =>
              obtain ⟨q, u⟩ := a
              have hu := hF2 _ u (by obtain ⟨-, -, i, hi, e⟩ := np_in hA; rw [← e]; exact (hW.2.1.2.2.2.2.2.2.2 n i hn (by omega)).2) (np_in hA).2.1
              show (nI u).toInt ≤ 1000000
              rw [nI_toInt (by omega)]
              omega
          | some v =>
            rw [hFp] at IH c58
            have hv := hF2 _ v hpin.2 hFp
            cases hA : npM b (tin R n) F n p with
            | none =>
              rw [hA] at IH
              exact zJ_back (zle_r (zle_r (zle_r (zle_r (zle_r (zle_r (zle_n zle_0))))))) rfl IH
            | some a =>
              obtain ⟨q, u⟩ := a
              have hu := hF2 _ u (by obtain ⟨-, -, i, hi, e⟩ := np_in hA; rw [← e]; exact (hW.2.1.2.2.2.2.2.2.2 n i hn (by omega)).2) (np_in hA).2.1
              rw [hA] at c58 IH
              simp only at IH
              have : v < u := Nat.not_le.mp (fun z => c58 (show nI u ≤ nI v from nI_le z (by omega)))
              rw [if_pos this] at IH
              exact zJ_back (zle_r (zle_r (zle_r (zle_r (zle_r (zle_r (zle_n zle_0))))))) rfl IH
  refine zJ_iconst (v := -1) dX6_nearestPin_0 rfl ?_
  refine zJ_istore_m 3 dX6_nearestPin_1 rfl (Nat.le_of_ble_eq_true rfl) (by decide) ?_
  refine zJ_ldc (v := 1000000) lk_X6_159 dX6_nearestPin_2 ?_
  refine zJ_istore dX6_nearestPin_4 (Nat.le_of_ble_eq_true rfl) (by decide) ?_
  refine zJ_iconst (v := nI 0) dX6_nearestPin_6 rfl ?_
  refine zJ_istore dX6_nearestPin_7 (Nat.le_of_ble_eq_true rfl) (by decide) ?_
  exact loop (bpc b n) 0 (by omega)
end ZGrow
