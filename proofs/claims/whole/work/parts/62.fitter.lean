/-! ===== Fitter.biggestGroup ===== -/
section ZFitter2
variable {l : Launch} {Xi : zXi} {d : Nat} {I : zI} {g : zG}
def mxG (f : Nat → Nat) : Nat → Nat
  | 0 => 0
  | k + 1 => if mxG f k < f k then f k else mxG f k
theorem mxG_ge {f : Nat → Nat} {u : Nat} : ∀ {n : Nat}, u < n → f u ≤ mxG f n
  | 0, h => by omega
  | n + 1, h => by
    simp only [mxG]
    by_cases e : u = n
    · subst e; split <;> omega
    · have := mxG_ge (f := f) (show u < n by omega)
      split <;> omega
theorem mxG_le {f : Nat → Nat} {B : Nat} : ∀ {n : Nat}, (∀ u, u < n → f u ≤ B) → mxG f n ≤ B
  | 0, _ => Nat.zero_le _
  | n + 1, h => by
    simp only [mxG]
    have := mxG_le (f := f) (n := n) (fun u hu => h u (by omega))
    have := h n (by omega)
    split <;> omega
theorem mxG_upd {f f' : Nat → Nat} {u n : Nat} (hu : u < n) (h : ∀ x, x ≠ u → f' x = f x) (hle : f u ≤ f' u) : mxG f' n = if mxG f n < f' u then f' u else mxG f n := by
  have h1 := mxG_ge (f := f') hu
  have h2 : mxG f n ≤ mxG f' n := mxG_le (fun x hx => by
    have := mxG_ge (f := f') hx
    by_cases e : x = u
    · subst e; omega
    · rw [h x e] at this; exact this)
  have h3 : mxG f' n ≤ if mxG f n < f' u then f' u else mxG f n := mxG_le (fun x hx => by
    have := mxG_ge (f := f) hx
    by_cases e : x = u
    · subst e; split <;> omega
    · rw [h x e]; split <;> omega)
  split at h3 <;> split <;> omega
theorem mxG_congr {f f' : Nat → Nat} : ∀ {n : Nat}, (∀ u, u < n → f u = f' u) → mxG f n = mxG f' n
  | 0, _ => rfl
  | n + 1, h => by
    simp only [mxG]
    rw [mxG_congr (fun u hu => h u (by omega)), h n (by omega)]
theorem cB_inv {ok : Nat → Bool} {i : Nat} : ∀ {n : Nat}, i < cB ok n → ∃ j, j < n ∧ ok j = true ∧ cB ok j = i
  | 0, h => by simp [cB] at h
  | n + 1, h => by
    rcases Nat.lt_or_ge i (cB ok n) with z | z
    · obtain ⟨j, h1, h2, h3⟩ := cB_inv z
      exact ⟨j, by omega, h2, h3⟩
    · simp only [cB] at h
      cases e : ok n with
      | false => rw [e] at h; simp at h; omega
      | true => rw [e] at h; simp at h; exact ⟨n, by omega, e, by omega⟩
theorem cB_conv {ok : Nat → Bool} {w v : Nat → Nat} {u : Nat} : ∀ {n : Nat}, (∀ j, j < n → ok j = true → w (cB ok j) = v j) → cB (fun i => decide (w i = u)) (cB ok n) = cB (fun j => ok j && decide (v j = u)) n
  | 0, _ => rfl
  | n + 1, h => by
    have ih := cB_conv (ok := ok) (w := w) (v := v) (u := u) (n := n) (fun j hj => h j (by omega))
    cases e : ok n with
    | false => simp only [cB, e]; simp; exact ih
    | true =>
      have h1 : cB ok (n + 1) = cB ok n + 1 := by simp [cB, e]
      rw [h1]
      simp only [cB]
      rw [ih]
      simp only [h n (by omega) e, e, Bool.true_and]
noncomputable def bigM (b : zWo) (R : Nat → Int32) (ok : Nat → Bool) (p : Nat) : Nat := mxG (fun u => cB (fun j => ok j && decide (usn (fitR b R j) p = u)) (2 * bN b)) 7
theorem k_X2_biggestGroup (hl : l.stackTraces = false) (hd : 2 ≤ d) (hs : zSt g) {p : Nat} {b : zWo} {R : Nat → Int32} {ok : Nat → Bool} (hN : bN b ≤ 6) (hp : p < 64) (hq : fitQ b R ok I (2 * bN b)) : zEi l Xi mX2_biggestGroup d [.ref 53, .int (nI (cB ok (2 * bN b))), .int (nI p)] I g (fun x J => x = nI (bigM b R ok p) ∧ ∃ f, J = va_up I 56 f) := by
  refine zC_of hl rfl rfl rfl (Nat.le_of_ble_eq_true rfl) (zav_r (zSt_ob hs 53 2 rfl).1 (zav_i (zav_i zav_0))) ?_
  have hfl : cB ok (2 * bN b) ≤ 2 * bN b := cB_le
  obtain ⟨N, hNe⟩ : ∃ N, cB ok (2 * bN b) = N := ⟨_, rfl⟩
  obtain ⟨w, hw⟩ : ∃ w : Nat → Nat, ∀ i, w i = (I 55 (i * 64 + p)).toNatClampNeg := ⟨_, fun _ => rfl⟩
  have hwj : ∀ j, j < 2 * bN b → ok j = true → w (cB ok j) = usn (fitR b R j) p := fun j hj hoj => by
    have hu := usn_le (R := fitR b R j) (p := p)
    rw [hw, (hq j hj hoj).2 p hp, nI_clamp (by omega)]
  have hwi : ∀ i, i < N → I 55 (i * 64 + p) = nI (w i) ∧ w i ≤ 6 := fun i hi => by
    rw [← hNe] at hi
    obtain ⟨j, h1, h2, h3⟩ := cB_inv hi
    have hu := usn_le (R := fitR b R j) (p := p)
    have h4 := hwj j h1 h2
    rw [h3] at h4
    have h5 := (hq j h1 h2).2 p hp
    rw [h3] at h5
    exact ⟨by rw [h5, h4], by omega⟩
  have hbig : bigM b R ok p = mxG (fun u => cB (fun i => decide (w i = u)) N) 7 := mxG_congr (fun u _ => by rw [← hNe]; exact (cB_conv hwj).symm)
  rw [hbig, hNe]
  rw [hNe] at hfl
  have loop : ∀ m i, i + m = N → ∀ (f : Nat → Int32), (∀ u, u < 7 → f u = nI (cB (fun i' => decide (w i' = u)) i)) → zJ l Xi mX2_biggestGroup d 0 0 13 [some (.ref 53), some (.int (nI N)), some (.int (nI p)), some (.int (nI (mxG (fun u => cB (fun i' => decide (w i' = u)) i) 7))), some (.int (nI i)), none] [] (va_up I 56 f, g) (fun r' h' => ∃ x I', r' = .inl (some (.int x)) ∧ h' = (I', g) ∧ x = nI (mxG (fun u => cB (fun i => decide (w i = u)) N) 7) ∧ ∃ f, I' = va_up I 56 f) := by
    intro m
    induction m with
    | zero =>
      intro i hp f hI
      obtain rfl : i = N := by omega
      refine zJ_iload dX2_biggestGroup_13 rfl ?_
      refine zJ_iload_n dX2_biggestGroup_15 rfl ?_
      refine zJ_icmp_ge 88 dX2_biggestGroup_16 (by decide) (fun _ => ?_) (fun c16 => absurd (nI_le (by omega) (by omega)) c16)
      refine zJ_iload_n dX2_biggestGroup_88 rfl ?_
      refine zJ_iret rfl dX2_biggestGroup_89 ?_
      exact ⟨_, _, rfl, rfl, rfl, f, rfl⟩
    | succ m ih =>
      intro i hp f hI
      obtain ⟨hv1, hv2⟩ := hwi i (by omega)
      have hcu : cB (fun i' => decide (w i' = w i)) (i + 1) = cB (fun i' => decide (w i' = w i)) i + 1 := by simp [cB]
      have hcx : ∀ x, x ≠ w i → cB (fun i' => decide (w i' = x)) (i + 1) = cB (fun i' => decide (w i' = x)) i := fun x hx => by simp [cB, Ne.symm hx]
      have hmx := mxG_upd (f := fun u => cB (fun i' => decide (w i' = u)) i) (f' := fun u => cB (fun i' => decide (w i' = u)) (i + 1)) (u := w i) (n := 7) (by omega) hcx (by show cB (fun i' => decide (w i' = w i)) i ≤ cB (fun i' => decide (w i' = w i)) (i + 1); omega)
      simp only [hcu] at hmx
      have hcl : cB (fun i' => decide (w i' = w i)) i ≤ i := cB_le
      have hml : mxG (fun u => cB (fun i' => decide (w i' = u)) i) 7 ≤ i := mxG_le (fun u _ => cB_le)
      have hf' := hI
      refine zJ_iload dX2_biggestGroup_13 rfl ?_
      refine zJ_iload_n dX2_biggestGroup_15 rfl ?_
      refine zJ_icmp_ge 88 dX2_biggestGroup_16 (by decide) (fun c16 => absurd c16 (nI_ge (by omega) (by omega))) (fun _ => ?_)
      refine zJ_aload_n dX2_biggestGroup_19 rfl ?_
      refine zP_getr lf_X2_15 (zSt_ob hs 53 2 rfl) rfl (zSt_rf hs 53 4 55 rfl) dX2_biggestGroup_20 ?_
      refine zJ_iload dX2_biggestGroup_23 rfl ?_
      refine zJ_bipush (v := nI 64) dX2_biggestGroup_25 rfl ?_
      refine zJ_imul dX2_biggestGroup_27 ?_
      refine zJ_iload_n dX2_biggestGroup_28 rfl ?_
      refine zJ_iadd dX2_biggestGroup_29 ?_
      refine zP_iald (zSt_ar hs 55 768 rfl) (by first | assumption | with_reducible exact vp_in_nI (by omega) (by omega) | (simp (disch := omega) only [nI_add, pk_mul, pk_sub, pk_div, pk_rem, nI_clamp]; with_reducible exact vp_in_nI (by omega) (by omega))) dX2_biggestGroup_30 ?_
      simp (disch := omega) only [nI_add, pk_mul, nI_clamp]
      rw [va_up_row (by decide), hv1]
      refine zJ_istore dX2_biggestGroup_31 (Nat.le_of_ble_eq_true rfl) (by decide) ?_
      refine zJ_iload dX2_biggestGroup_33 rfl ?_
      refine zJ_if_lt 82 dX2_biggestGroup_35 (by decide) (fun c35 => absurd c35 (fun z => by have := Int32.lt_iff_toInt_lt.mp z; rw [nI_toInt (by omega), show (0 : Int32).toInt = 0 by decide] at this; omega)) (fun _ => ?_)
      refine zJ_iload dX2_biggestGroup_38 rfl ?_
      refine zJ_aload_n dX2_biggestGroup_40 rfl ?_
      refine zP_getr lf_X2_18 (zSt_ob hs 53 2 rfl) rfl (zSt_rf hs 53 5 56 rfl) dX2_biggestGroup_41 ?_
      refine zP_alen (zSt_ar hs 56 7 rfl) dX2_biggestGroup_44 ?_
      refine zJ_icmp_ge 82 dX2_biggestGroup_45 (by decide) (fun c45 => absurd c45 (nI_ge (by omega) (by omega))) (fun _ => ?_)
      refine zJ_aload_n dX2_biggestGroup_48 rfl ?_
      refine zP_getr lf_X2_18 (zSt_ob hs 53 2 rfl) rfl (zSt_rf hs 53 5 56 rfl) dX2_biggestGroup_49 ?_
      refine zJ_iload dX2_biggestGroup_52 rfl ?_
      refine zJ_dup2 dX2_biggestGroup_54 rfl rfl ?_
      refine zP_iald (zSt_ar hs 56 7 rfl) (by first | assumption | with_reducible exact vp_in_nI (by omega) (by omega) | (simp (disch := omega) only [nI_add, pk_mul, pk_sub, pk_div, pk_rem, nI_clamp]; with_reducible exact vp_in_nI (by omega) (by omega))) dX2_biggestGroup_55 ?_
      rw [nI_clamp (by omega), va_up_same, hf' (w i) (by omega)]
      refine zJ_iconst (v := nI 1) dX2_biggestGroup_56 rfl ?_
      refine zJ_iadd dX2_biggestGroup_57 ?_
      rw [nI_add]
      refine zP_iast (zSt_ar hs 56 7 rfl) (by first | assumption | with_reducible exact vp_in_nI (by omega) (by omega) | (simp (disch := omega) only [nI_add, pk_mul, pk_sub, pk_div, pk_rem, nI_clamp]; with_reducible exact vp_in_nI (by omega) (by omega))) dX2_biggestGroup_58 ?_
      refine zJ_aload_n dX2_biggestGroup_59 rfl ?_
      refine zP_getr lf_X2_18 (zSt_ob hs 53 2 rfl) rfl (zSt_rf hs 53 5 56 rfl) dX2_biggestGroup_60 ?_
      refine zJ_iload dX2_biggestGroup_63 rfl ?_
      refine zP_iald (zSt_ar hs 56 7 rfl) (by first | assumption | with_reducible exact vp_in_nI (by omega) (by omega) | (simp (disch := omega) only [nI_add, pk_mul, pk_sub, pk_div, pk_rem, nI_clamp]; with_reducible exact vp_in_nI (by omega) (by omega))) dX2_biggestGroup_65 ?_
      rw [nI_clamp (by omega), zup_same, upd_at]
      refine zJ_iload_n dX2_biggestGroup_66 rfl ?_
      refine zJ_icmp_le 80 dX2_biggestGroup_67 (by decide) (fun c67 => ?_) (fun c67 => ?_)
      · skip
        refine zJ_iload_n dX2_biggestGroup_80 rfl ?_
        have h1 := (nI_leI (by omega) (by omega)).mp c67
        rw [if_neg (by omega)] at hmx
        refine zJ_istore_m 3 dX2_biggestGroup_81 rfl (Nat.le_of_ble_eq_true rfl) (by decide) ?_
        refine zJ_iinc1 dX2_biggestGroup_82 rfl (by decide) ?_
        refine zJ_goto 13 dX2_biggestGroup_85 (by decide) ?_
        rw [← hmx, zup_va]
        refine zJ_back (zle_r (zle_r (zle_r (zle_r (zle_r (zle_n zle_0)))))) rfl (ih (i + 1) (by omega) _ (fun u hu => ?_))
        by_cases e : u = w i
        · rw [e, upd_at, hcu]
        · rw [upd_ne e, hcx u e]; exact hI u hu
      · skip
        refine zJ_aload_n dX2_biggestGroup_70 rfl ?_
        refine zP_getr lf_X2_18 (zSt_ob hs 53 2 rfl) rfl (zSt_rf hs 53 5 56 rfl) dX2_biggestGroup_71 ?_
        refine zJ_iload dX2_biggestGroup_74 rfl ?_
        refine zP_iald (zSt_ar hs 56 7 rfl) (by first | assumption | with_reducible exact vp_in_nI (by omega) (by omega) | (simp (disch := omega) only [nI_add, pk_mul, pk_sub, pk_div, pk_rem, nI_clamp]; with_reducible exact vp_in_nI (by omega) (by omega))) dX2_biggestGroup_76 ?_
        rw [nI_clamp (by omega), zup_same, upd_at]
        refine zJ_goto 81 dX2_biggestGroup_77 (by decide) ?_
        have h1 : ¬ cB (fun i' => decide (w i' = w i)) i + 1 ≤ mxG (fun u => cB (fun i' => decide (w i' = u)) i) 7 := fun z => c67 (nI_le z (by omega))
        rw [if_pos (by omega)] at hmx
        refine zJ_istore_m 3 dX2_biggestGroup_81 rfl (Nat.le_of_ble_eq_true rfl) (by decide) ?_
        refine zJ_iinc1 dX2_biggestGroup_82 rfl (by decide) ?_
        refine zJ_goto 13 dX2_biggestGroup_85 (by decide) ?_
        rw [← hmx, zup_va]
        refine zJ_back (zle_r (zle_r (zle_r (zle_r (zle_r (zle_n zle_0)))))) rfl (ih (i + 1) (by omega) _ (fun u hu => ?_))
        by_cases e : u = w i
        · rw [e, upd_at, hmx, hcu]
        · rw [upd_ne e, hcx u e]; exact hI u hu
  refine zJ_aload_n dX2_biggestGroup_0 rfl ?_
  refine zP_getr lf_X2_18 (zSt_ob hs 53 2 rfl) rfl (zSt_rf hs 53 5 56 rfl) dX2_biggestGroup_1 ?_
  refine zJ_iconst (v := nI 0) dX2_biggestGroup_4 rfl ?_
  refine zP_callSv [_, _] _ ls_X2_69 (k_fill (d := d - 1) hl (by omega) (zSt_ar hs 56 7 rfl) (by omega)) rfl (by omega) (Nat.le_of_ble_eq_true rfl) rfl dX2_biggestGroup_5 ?_
  refine zJ_iconst (v := nI 0) dX2_biggestGroup_8 rfl ?_
  refine zJ_istore_m 3 dX2_biggestGroup_9 rfl (Nat.le_of_ble_eq_true rfl) (by decide) ?_
  refine zJ_iconst (v := nI 0) dX2_biggestGroup_10 rfl ?_
  refine zJ_istore dX2_biggestGroup_11 (Nat.le_of_ble_eq_true rfl) (by decide) ?_
  refine loop N 0 (by omega) _ (fun u hu => ?_)
  unfold fillR
  rw [if_pos hu]
  rfl
end ZFitter2
