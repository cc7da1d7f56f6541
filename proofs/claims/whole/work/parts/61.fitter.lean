/-! ===== Fitter ===== -/
section ZFitter
variable {l : Launch} {Xi : zXi} {d : Nat} {I : zI} {g : zG}
/-- deed j: net j / 2; 0 ripped, 1 laid -/
noncomputable def fitR (b : zWo) (R : Nat → Int32) (j : Nat) : Nat → Int32 := if j % 2 = 0 then ripM R (j / 2) else if 0 < bpc b (j / 2) then layA b R (j / 2) else R
def fitD (b : zWo) (R : Nat → Int32) (j : Nat) : Bool := if j % 2 = 0 then anyB (tin R (j / 2)) 64 else decide (0 < bpc b (j / 2))
noncomputable def fitB (b : zWo) (R : Nat → Int32) (kl : Nat) (kp kw : Nat → Nat) (j : Nat) : Bool := fitD b R j && allB (fun i => decide (usn (fitR b R j) (kp i) = kw i)) kl
def fitQ (b : zWo) (R : Nat → Int32) (ok : Nat → Bool) (J : zI) (n : Nat) : Prop := ∀ j, j < n → ok j = true → J 54 (cB ok j) = nI (10 * (j / 2) + j % 2) ∧ ∀ p, p < 64 → J 55 (cB ok j * 64 + p) = nI (usn (fitR b R j) p)
theorem allB_congr {f f' : Nat → Bool} : ∀ {n : Nat}, (∀ k, k < n → f k = f' k) → allB f n = allB f' n
  | 0, _ => rfl
  | n + 1, h => by
    simp only [allB]
    rw [allB_congr (fun k hk => h k (by omega)), h n (by omega)]
theorem cB_tot {f : Nat → Bool} : ∀ {m n : Nat}, m ≤ n → cB f m ≤ cB f n
  | m, 0, h => by rw [show m = 0 by omega]; exact Nat.le_refl _
  | m, n + 1, h => by
    by_cases e : m = n + 1
    · rw [e]; exact Nat.le_refl _
    · have := cB_tot (f := f) (show m ≤ n by omega)
      simp only [cB]
      omega
theorem fitQ_of {b : zWo} {R : Nat → Int32} {ok : Nat → Bool} {J K : zI} {n : Nat} (h : fitQ b R ok J n) (e1 : K 54 = J 54) (e2 : K 55 = J 55) : fitQ b R ok K n := fun j hj hok => by rw [e1, e2]; exact h j hj hok
set_option maxHeartbeats 2000000 in
theorem k_X2_findPairs (hl : l.stackTraces = false) (hd : 7 ≤ d) (hs : zSt g) {s t kl : Nat} {b : zWo} {R : Nat → Int32} {kp kw : Nat → Nat} (hst : zK g s 8 zLt_State) (htt : zK g t 8 zLt_State) (hsN : 60 < s) (htN : 60 < t) (hdis : t + 5 < s ∨ s + 5 < t) (hW : zWi I b) (hR : zRow I s R) (hk : zBk I 29 kl kp kw) : zEi l Xi mX2_findPairs d [.ref 53, .ref s, .ref t] I g (fun x J => x = nI (cB (fitB b R kl kp kw) (2 * bN b)) ∧ fZ t I J ∧ fitQ b R (fitB b R kl kp kw) J (2 * bN b)) := by
  refine zC_of hl rfl rfl rfl (Nat.le_of_ble_eq_true rfl) (zav_r (zSt_ob hs 53 2 rfl).1 (zav_r hst.1.1 (zav_r htt.1.1 zav_0))) ?_
  have hN6 := hW.1.2.2.2.2.1
  obtain ⟨ok, hok⟩ : ∃ ok, fitB b R kl kp kw = ok := ⟨_, rfl⟩
  rw [hok]
  have nets : ∀ m n, n + m = bN b → ∀ (J : zI), (fZ t I J ∧ fitQ b R ok J (2 * n)) → zJ l Xi mX2_findPairs d 0 0 5 [some (.ref 53), some (.ref s), some (.ref t), some (.int (nI (cB ok (2 * n)))), some (.int (nI n)), none, none] [] (J, g) (fun r' h' => ∃ x I', r' = .inl (some (.int x)) ∧ h' = (I', g) ∧ x = nI (cB ok (2 * bN b)) ∧ fZ t I I' ∧ fitQ b R ok I' (2 * bN b)) := by
    intro m
    induction m with
    | zero =>
      intro n hp J hI
      obtain rfl : n = bN b := by omega
      refine zJ_iload dX2_findPairs_5 rfl ?_
      refine zJ_aload_n dX2_findPairs_7 rfl ?_
      refine zP_getr lf_X2_21 (zSt_ob hs 53 2 rfl) rfl (zSt_rf hs 53 0 3 rfl) dX2_findPairs_8 ?_
      refine zP_geti lf_X2_33 (zSt_ob hs 3 0 rfl) rfl dX2_findPairs_11 ?_
      refine zJ_icmp_ge 127 dX2_findPairs_14 (by decide) (fun _ => ?_) (fun c14 => absurd (by rw [(zWi_fZ htN hW hI.1).2.1.2.2.1]; exact nI_le (by omega) (by omega)) c14)
      refine zJ_iload_n dX2_findPairs_127 rfl ?_
      refine zJ_iret rfl dX2_findPairs_128 ?_
      exact ⟨_, J, rfl, rfl, rfl, hI.1, hI.2⟩
    | succ m ih =>
      intro n hp J hI
      refine zJ_iload dX2_findPairs_5 rfl ?_
      refine zJ_aload_n dX2_findPairs_7 rfl ?_
      refine zP_getr lf_X2_21 (zSt_ob hs 53 2 rfl) rfl (zSt_rf hs 53 0 3 rfl) dX2_findPairs_8 ?_
      refine zP_geti lf_X2_33 (zSt_ob hs 3 0 rfl) rfl dX2_findPairs_11 ?_
      refine zJ_icmp_ge 127 dX2_findPairs_14 (by decide) (fun c14 => absurd c14 (by rw [(zWi_fZ htN hW hI.1).2.1.2.2.1]; exact nI_ge (by omega) (by omega))) (fun _ => ?_)
      refine zJ_iconst (v := nI 0) dX2_findPairs_17 rfl ?_
      refine zJ_istore dX2_findPairs_18 (Nat.le_of_ble_eq_true rfl) (by decide) ?_
      have hn : n < 6 := by omega
      have deeds : ∀ m e, e + m = 2 → ∀ (J : zI), (fZ t I J ∧ fitQ b R ok J (2 * n + e)) → zJ l Xi mX2_findPairs d 0 0 20 [some (.ref 53), some (.ref s), some (.ref t), some (.int (nI (cB ok (2 * n + e)))), some (.int (nI n)), some (.int (nI e)), none] [] (J, g) (fun r' h' => ∃ x I', r' = .inl (some (.int x)) ∧ h' = (I', g) ∧ x = nI (cB ok (2 * bN b)) ∧ fZ t I I' ∧ fitQ b R ok I' (2 * bN b)) := by
        intro m
        induction m with
        | zero =>
          intro e hp J hI
          obtain rfl : e = 2 := by omega
          refine zJ_iload dX2_findPairs_20 rfl ?_
          refine zJ_iconst (v := nI 2) dX2_findPairs_22 rfl ?_
          refine zJ_icmp_ge 121 dX2_findPairs_23 (by decide) (fun _ => ?_) (fun c23 => absurd (nI_le (by omega) (by omega)) c23)
          refine zJ_iinc1 dX2_findPairs_121 rfl (by decide) ?_
          refine zJ_goto 5 dX2_findPairs_124 (by decide) ?_
          exact zJ_back (zle_r (zle_r (zle_r (zle_r (zle_r (zle_n (zle_n zle_0))))))) rfl (ih (n + 1) (by omega) J hI)
        | succ m ih =>
          intro e hp J hI
          refine zJ_iload dX2_findPairs_20 rfl ?_
          refine zJ_iconst (v := nI 2) dX2_findPairs_22 rfl ?_
          refine zJ_icmp_ge 121 dX2_findPairs_23 (by decide) (fun c23 => absurd c23 (nI_ge (by omega) (by omega))) (fun _ => ?_)
          refine zJ_aload_n dX2_findPairs_26 rfl ?_
          refine zJ_aload_n dX2_findPairs_27 rfl ?_
          refine zP_callVv [_] _ lv_X2_39 (k_X8_copyFrom (d := d - 1) hl (by omega) htt hst) htt.1 rfl (by omega) (Nat.le_of_ble_eq_true rfl) rfl dX2_findPairs_28 ?_
          obtain ⟨K, hK⟩ : ∃ K, K = f_copyS J t s := ⟨_, rfl⟩
          rw [← hK]
          have hfZ : fZ t I K := by rw [hK]; exact fZ_copyS hI.1
          have hWK := zWi_fZ htN hW hfZ
          have hRJ := zRow_fZ (s := s) (t := t) hsN (by omega) hR hI.1
          have hRK : zRow K t R := by rw [hK]; exact copyS_row (by omega) hRJ
          have hQK : fitQ b R ok K (2 * n + e) := fitQ_of hI.2 (by rw [hK]; exact copyS_ne (by omega)) (by rw [hK]; exact copyS_ne (by omega))
          have hj2 : (2 * n + e) / 2 = n := by omega
          have hjm : (2 * n + e) % 2 = e := by omega
          have hcl : cB ok (2 * n + e) ≤ 2 * n + e := cB_le
          have h115 : ∀ (K2 : zI), fZ t I K2 → fitQ b R ok K2 (2 * n + (e + 1)) → ∀ o6, zJ l Xi mX2_findPairs d 0 0 115 [some (.ref 53), some (.ref s), some (.ref t), some (.int (nI (cB ok (2 * n + (e + 1))))), some (.int (nI n)), some (.int (nI e)), o6] [] (K2, g) (fun r' h' => ∃ x I', r' = .inl (some (.int x)) ∧ h' = (I', g) ∧ x = nI (cB ok (2 * bN b)) ∧ fZ t I I' ∧ fitQ b R ok I' (2 * bN b)) := by
            intro K2 k1 k2 o6
            refine zJ_iinc1 dX2_findPairs_115 rfl (by decide) ?_
            refine zJ_goto 20 dX2_findPairs_118 (by decide) ?_
            exact zJ_back (zle_r (zle_r (zle_r (zle_r (zle_r (zle_r (zle_n zle_0))))))) rfl (ih (e + 1) (by omega) K2 ⟨k1, k2⟩)
          have hskip : ∀ K2, fitQ b R ok K2 (2 * n + e) → ok (2 * n + e) = false → fitQ b R ok K2 (2 * n + (e + 1)) := fun K2 hq hf j hj hoj => by
            by_cases z : j = 2 * n + e
            · rw [z, hf] at hoj; cases hoj
            · exact hq j (by omega) hoj
          have hcs : cB ok (2 * n + (e + 1)) = cB ok (2 * n + e) + (if ok (2 * n + e) then 1 else 0) := rfl
          have h59 : ∀ (K1 : zI) (v : Bool), fitD b R (2 * n + e) = v → fX t K K1 → zRow K1 t (fitR b R (2 * n + e)) → zJ l Xi mX2_findPairs d 0 0 59 [some (.ref 53), some (.ref s), some (.ref t), some (.int (nI (cB ok (2 * n + e)))), some (.int (nI n)), some (.int (nI e)), none] [.int (if v then 1 else 0)] (K1, g) (fun r' h' => ∃ x I', r' = .inl (some (.int x)) ∧ h' = (I', g) ∧ x = nI (cB ok (2 * bN b)) ∧ fZ t I I' ∧ fitQ b R ok I' (2 * bN b)) := by
            intro K1 v hv k1 k2
            have hf1 : fZ t I K1 := fZ_trans hfZ (fZ_fX k1)
            have hQ1 : fitQ b R ok K1 (2 * n + e) := fitQ_of hQK (k1 54 (by omega) (by omega) (by omega) (by omega) (by omega) (by omega) (by omega) (by omega) (by omega)) (k1 55 (by omega) (by omega) (by omega) (by omega) (by omega) (by omega) (by omega) (by omega) (by omega))
            have hk1 := zBk_fZ htN hk hf1
            have hright : allB (fun i => decide (K1 (t + 2) (kp i) = nI (kw i))) kl = allB (fun i => decide (usn (fitR b R (2 * n + e)) (kp i) = kw i)) kl := allB_congr (fun i hi => by
              obtain ⟨-, q1, -, q2⟩ := hk1.2.2 i hi
              have hu := usn_le (R := fitR b R (2 * n + e)) (p := kp i)
              rw [k2.2.1 _ q1]
              by_cases z : usn (fitR b R (2 * n + e)) (kp i) = kw i
              · rw [decide_eq_true z, z, decide_eq_true rfl]
              · rw [decide_eq_false z, decide_eq_false (fun y => z ((nI_eq (by omega) (by omega)).mp y))])
            have hokj : ok (2 * n + e) = (v && allB (fun i => decide (usn (fitR b R (2 * n + e)) (kp i) = kw i)) kl) := by rw [← hok, ← hv]; rfl
            cases v with
            | false =>
              have hof : ok (2 * n + e) = false := hokj
              have hc2 := hcs
              rw [hof] at hc2
              refine zJ_istore dX2_findPairs_59 (Nat.le_of_ble_eq_true rfl) (by decide) ?_
              refine zJ_iload dX2_findPairs_61 rfl ?_
              refine zJ_if_eq 115 dX2_findPairs_63 (by decide) (fun _ => ?_) (fun c63 => absurd rfl c63)
              have h9 := h115 K1 hf1 (hskip K1 hQ1 hof) (some (.int (if false = true then 1 else 0)))
              rw [hc2] at h9
              exact h9
            | true =>
              refine zJ_istore dX2_findPairs_59 (Nat.le_of_ble_eq_true rfl) (by decide) ?_
              refine zJ_iload dX2_findPairs_61 rfl ?_
              refine zJ_if_eq 115 dX2_findPairs_63 (by decide) (fun c63 => absurd c63 (by decide)) (fun _ => ?_)
              refine zJ_aload_n dX2_findPairs_66 rfl ?_
              refine zP_getr lf_X2_25 (zSt_ob hs 53 2 rfl) rfl (zSt_rf hs 53 1 29 rfl) dX2_findPairs_67 ?_
              refine zJ_aload_n dX2_findPairs_70 rfl ?_
              refine zP_getr lf_X2_54 htt.1 rfl (zK_rf htt 1 1 2 64 rfl) dX2_findPairs_71 ?_
              refine zP_callVi [_] _ lv_X2_57 (k_X1_isRightBy (d := d - 1) hl (by omega) (zSt_book hs) (zK_ar htt 1 1 2 64 rfl) hk1) (zSt_ob hs 29 1 rfl) rfl (by omega) (Nat.le_of_ble_eq_true rfl) rfl dX2_findPairs_74 ?_
              rw [hright]
              refine zJ_if_eq 115 dX2_findPairs_77 (by decide) (fun c77 => ?_) (fun c77 => ?_)
              · replace c77 := zb0.mp c77
                have hof : ok (2 * n + e) = false := by rw [hokj, c77]; rfl
                have hc2 := hcs
                rw [hof] at hc2
                have h9 := h115 K1 hf1 (hskip K1 hQ1 hof) (some (.int (if true = true then 1 else 0)))
                rw [hc2] at h9
                exact h9
              · replace c77 := zb1.mp c77
                refine zJ_aload_n dX2_findPairs_80 rfl ?_
                refine zP_getr lf_X2_11 (zSt_ob hs 53 2 rfl) rfl (zSt_rf hs 53 3 54 rfl) dX2_findPairs_81 ?_
                refine zJ_iload_n dX2_findPairs_84 rfl ?_
                refine zJ_bipush (v := nI 10) dX2_findPairs_85 rfl ?_
                refine zJ_iload dX2_findPairs_87 rfl ?_
                refine zJ_imul dX2_findPairs_89 ?_
                refine zJ_iload dX2_findPairs_90 rfl ?_
                refine zJ_iadd dX2_findPairs_92 ?_
                refine zP_iast (zSt_ar hs 54 12 rfl) (by first | assumption | with_reducible exact vp_in_nI (by omega) (by omega) | (simp (disch := omega) only [nI_add, pk_mul, pk_sub, pk_div, pk_rem, nI_clamp]; with_reducible exact vp_in_nI (by omega) (by omega))) dX2_findPairs_93 ?_
                refine zJ_aload_n dX2_findPairs_94 rfl ?_
                refine zP_getr lf_X2_54 htt.1 rfl (zK_rf htt 1 1 2 64 rfl) dX2_findPairs_95 ?_
                refine zJ_iconst (v := nI 0) dX2_findPairs_98 rfl ?_
                refine zJ_aload_n dX2_findPairs_99 rfl ?_
                refine zP_getr lf_X2_15 (zSt_ob hs 53 2 rfl) rfl (zSt_rf hs 53 4 55 rfl) dX2_findPairs_100 ?_
                refine zJ_iload_n dX2_findPairs_103 rfl ?_
                refine zJ_bipush (v := nI 64) dX2_findPairs_104 rfl ?_
                refine zJ_imul dX2_findPairs_106 ?_
                refine zJ_bipush (v := nI 64) dX2_findPairs_107 rfl ?_
                refine zP_copy lc_X2_63 (zK_ar htt 1 1 2 64 rfl) (zSt_ar hs 55 768 rfl) (sp := 0) (dp := cB ok (2 * n + e) * 64) (n := 64) rfl (pk_mul _ _) rfl (by decide) (by omega) (by decide) (Nat.le_of_ble_eq_true rfl) (by omega) dX2_findPairs_109 ?_
                refine zJ_iinc1 dX2_findPairs_112 rfl (by decide) ?_
                have hot : ok (2 * n + e) = true := by rw [hokj, c77]; rfl
                have hc2 := hcs
                rw [hot] at hc2
                rw [nI_clamp (by omega)]
                have h9 := h115 (va_up (zup K1 54 (cB ok (2 * n + e)) (nI 10 * nI n + nI e)) 55 (va_cpy (zup K1 54 (cB ok (2 * n + e)) (nI 10 * nI n + nI e) (t + 2)) (zup K1 54 (cB ok (2 * n + e)) (nI 10 * nI n + nI e) 55) 0 (cB ok (2 * n + e) * 64) 64)) (fZ_up (fZ_zup hf1 (by omega)) (by omega)) (fun j hj hoj => by
                  by_cases z : j = 2 * n + e
                  · rw [z, hj2, hjm]
                    refine ⟨?_, fun p hp => ?_⟩
                    · rw [va_up_row (by decide), zup_same, upd_at, pk_mul, nI_add]
                    · rw [va_up_same]
                      unfold va_cpy
                      rw [if_pos (by omega), zup_row (by omega), show 0 + (cB ok (2 * n + e) * 64 + p - cB ok (2 * n + e) * 64) = p by omega]
                      exact k2.2.1 p hp
                  · obtain ⟨q1, q2⟩ := hQ1 j (by omega) hoj
                    have hlt : cB ok j < cB ok (2 * n + e) := by
                      have h8 : cB ok (j + 1) = cB ok j + (if ok j then 1 else 0) := rfl
                      rw [hoj] at h8
                      have := cB_tot (f := ok) (show j + 1 ≤ 2 * n + e by omega)
                      simp at h8
                      omega
                    refine ⟨?_, fun p hp => ?_⟩
                    · rw [va_up_row (by decide), zup_same, upd_ne (by omega)]; exact q1
                    · rw [va_up_same]
                      unfold va_cpy
                      rw [if_neg (by omega), zup_row (by decide)]
                      exact q2 p hp) (some (.int (if true = true then 1 else 0)))
                rw [hc2] at h9
                exact h9
          obtain rfl | rfl : e = 0 ∨ e = 1 := by omega
          · skip
            have hrE : fitR b R (2 * n + 0) = ripM R n := by unfold fitR; rw [hj2, hjm]; rfl
            have hdE : fitD b R (2 * n + 0) = anyB (tin R n) 64 := by unfold fitD; rw [hj2, hjm]; rfl
            refine zJ_iload dX2_findPairs_31 rfl ?_
            refine zJ_if_ne 49 dX2_findPairs_33 (by decide) (fun c33 => absurd rfl c33) (fun _ => ?_)
            refine zJ_aload_n dX2_findPairs_36 rfl ?_
            refine zP_getr lf_X2_29 (zSt_ob hs 53 2 rfl) rfl (zSt_rf hs 53 2 43 rfl) dX2_findPairs_37 ?_
            refine zJ_aload_n dX2_findPairs_40 rfl ?_
            refine zJ_iload dX2_findPairs_41 rfl ?_
            refine zP_ecallVi [_, _] _ lv_X2_45 (k_ripUp (d := d - 1) hl (by omega) hs htt hn hRK) (zSt_ob hs 43 6 rfl) rfl (by omega) (Nat.le_of_ble_eq_true rfl) rfl dX2_findPairs_43 (fun x K1 hx => ?_)
            obtain ⟨rfl, k1, k2⟩ := hx
            refine zJ_goto 59 dX2_findPairs_46 (by decide) ?_
            exact h59 K1 _ hdE k1 (by rw [hrE]; exact k2)
          · skip
            have hrE : fitR b R (2 * n + 1) = if 0 < bpc b n then layA b R n else R := by unfold fitR; rw [hj2, hjm]; rfl
            have hdE : fitD b R (2 * n + 1) = decide (0 < bpc b n) := by unfold fitD; rw [hj2, hjm]; rfl
            refine zJ_iload dX2_findPairs_31 rfl ?_
            refine zJ_if_ne 49 dX2_findPairs_33 (by decide) (fun _ => ?_) (fun c33 => absurd c33 (by decide))
            refine zJ_aload_n dX2_findPairs_49 rfl ?_
            refine zP_getr lf_X2_29 (zSt_ob hs 53 2 rfl) rfl (zSt_rf hs 53 2 43 rfl) dX2_findPairs_50 ?_
            refine zJ_aload_n dX2_findPairs_53 rfl ?_
            refine zJ_iload dX2_findPairs_54 rfl ?_
            refine zP_ecallVi [_, _] _ lv_X2_51 (k_X6_layAnew (d := d - 1) hl (by omega) hs htt htN hn (by omega) hWK hRK) (zSt_ob hs 43 6 rfl) rfl (by omega) (Nat.le_of_ble_eq_true rfl) rfl dX2_findPairs_56 (fun x K1 hx => ?_)
            obtain ⟨rfl, k1, k2⟩ := hx
            exact h59 K1 _ hdE k1 (by rw [hrE]; exact k2)
      exact zJ_back (zle_r (zle_r (zle_r (zle_r (zle_r (zle_r (zle_n zle_0))))))) rfl (deeds 2 0 (by omega) J hI)
  refine zJ_iconst (v := nI 0) dX2_findPairs_0 rfl ?_
  refine zJ_istore_m 3 dX2_findPairs_1 rfl (Nat.le_of_ble_eq_true rfl) (by decide) ?_
  refine zJ_iconst (v := nI 0) dX2_findPairs_2 rfl ?_
  refine zJ_istore dX2_findPairs_3 (Nat.le_of_ble_eq_true rfl) (by decide) ?_
  exact nets (bN b) 0 (by omega) I ⟨fZ_rfl, fun j hj => by omega⟩
end ZFitter
