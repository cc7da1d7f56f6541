/-! ===== the reference: board ===== -/
section ZRefAI
variable {l : Launch} {Xi : zXi} {d : Nat} {I : zI} {g : zG}
theorem m_tellsNothing (hl : l.stackTraces = false) (hd : 1 ≤ d) (hs : zSt g) : zEv l Xi mX13_tellsNothing d [.ref 74] I g (fun J => (∀ a, a ≠ 77 → a ≠ 79 → a ≠ 80 → J a = I a) ∧ rRb J rb0) := by
  refine zC_of hl rfl rfl rfl (Nat.le_of_ble_eq_true rfl) (zav_r (zSt_ob hs 74 13 rfl).1 zav_0) ?_
  have loop : ∀ m p (J : zI), p + m = 64 → (∀ a, a ≠ 77 → a ≠ 79 → a ≠ 80 → J a = I a) → (J 77 0 = nI 4 ∧ J 77 1 = nI 4 ∧ J 77 2 = nI 0 ∧ J 77 3 = nI 1) → (∀ q, q < p → J 79 q = nI 0 ∧ J 80 q = nI 1) → zJ l Xi mX13_tellsNothing d 0 0 30 [some (.ref 74), some (.int (nI p))] [] (J, g) (fun r' h' => r' = .inl none ∧ ∃ I', h' = (I', g) ∧ (∀ a, a ≠ 77 → a ≠ 79 → a ≠ 80 → I' a = I a) ∧ rRb I' rb0) := by
    intro m
    induction m with
    | zero =>
      intro p J hp e t w
      obtain rfl : p = 64 := by omega
      refine zJ_iload_n dX13_tellsNothing_30 rfl ?_
      refine zJ_bipush (v := nI 64) dX13_tellsNothing_31 rfl ?_
      refine zJ_icmp_ge 56 dX13_tellsNothing_33 (by decide) (fun _ => ?_) (fun c33 => absurd (nI_le (by omega) (by omega)) c33)
      refine zJ_vret rfl dX13_tellsNothing_56 ?_
      exact ⟨rfl, J, rfl, e, t, fun n hn => absurd hn (Nat.not_lt_zero _), fun n i hn => absurd hn (Nat.not_lt_zero _), fun p hp => (w p hp).2, fun p hp => (w p hp).1⟩
    | succ m ih =>
      intro p J hp e t w
      refine zJ_iload_n dX13_tellsNothing_30 rfl ?_
      refine zJ_bipush (v := nI 64) dX13_tellsNothing_31 rfl ?_
      refine zJ_icmp_ge 56 dX13_tellsNothing_33 (by decide) (fun c33 => absurd c33 (nI_ge (by omega) (by omega))) (fun _ => ?_)
      refine zJ_aload_n dX13_tellsNothing_36 rfl ?_
      refine zP_getr lf_X13_26 (zSt_ob hs 74 13 rfl) rfl (zSt_rf hs 74 13 79 rfl) dX13_tellsNothing_37 ?_
      refine zJ_iload_n dX13_tellsNothing_40 rfl ?_
      refine zJ_iconst (v := nI 0) dX13_tellsNothing_41 rfl ?_
      refine zP_iast (zSt_ar hs 79 64 rfl) (by first | assumption | with_reducible exact vp_in_nI (by omega) (by omega) | (simp (disch := omega) only [nI_add, pk_mul, pk_sub, pk_div, pk_rem, nI_clamp]; with_reducible exact vp_in_nI (by omega) (by omega))) dX13_tellsNothing_42 ?_
      refine zJ_aload_n dX13_tellsNothing_43 rfl ?_
      refine zP_getr lf_X13_29 (zSt_ob hs 74 13 rfl) rfl (zSt_rf hs 74 14 80 rfl) dX13_tellsNothing_44 ?_
      refine zJ_iload_n dX13_tellsNothing_47 rfl ?_
      refine zJ_iconst (v := nI 1) dX13_tellsNothing_48 rfl ?_
      refine zP_iast (zSt_ar hs 80 64 rfl) (by first | assumption | with_reducible exact vp_in_nI (by omega) (by omega) | (simp (disch := omega) only [nI_add, pk_mul, pk_sub, pk_div, pk_rem, nI_clamp]; with_reducible exact vp_in_nI (by omega) (by omega))) dX13_tellsNothing_49 ?_
      refine zJ_iinc1 dX13_tellsNothing_50 rfl (by decide) ?_
      refine zJ_goto 30 dX13_tellsNothing_53 (by decide) ?_
      rw [nI_clamp (by omega)]
      refine zJ_back (zle_r (zle_r zle_0)) rfl (ih (p + 1) _ (by omega) (fun a q1 q2 q3 => by rw [zup_row q3, zup_row q2]; exact e a q1 q2 q3) (by rw [zup_row (by decide), zup_row (by decide)]; exact t) (fun q hq => ?_))
      rw [zup_row (by decide), zup_same, zup_same, zup_row (by decide)]
      by_cases z : q = p
      · rw [z, upd_at, upd_at]; exact ⟨rfl, rfl⟩
      · rw [upd_ne z, upd_ne z]; exact w q (by omega)
  refine zJ_aload_n dX13_tellsNothing_0 rfl ?_
  refine zP_getr lf_X13_20 (zSt_ob hs 74 13 rfl) rfl (zSt_rf hs 74 11 77 rfl) dX13_tellsNothing_1 ?_
  refine zJ_iconst (v := nI 0) dX13_tellsNothing_4 rfl ?_
  refine zJ_iconst (v := nI 4) dX13_tellsNothing_5 rfl ?_
  refine zP_iast (zSt_ar hs 77 4 rfl) (by first | assumption | with_reducible exact vp_in_nI (by omega) (by omega) | (simp (disch := omega) only [nI_add, pk_mul, pk_sub, pk_div, pk_rem, nI_clamp]; with_reducible exact vp_in_nI (by omega) (by omega))) dX13_tellsNothing_6 ?_
  refine zJ_aload_n dX13_tellsNothing_7 rfl ?_
  refine zP_getr lf_X13_20 (zSt_ob hs 74 13 rfl) rfl (zSt_rf hs 74 11 77 rfl) dX13_tellsNothing_8 ?_
  refine zJ_iconst (v := nI 1) dX13_tellsNothing_11 rfl ?_
  refine zJ_iconst (v := nI 4) dX13_tellsNothing_12 rfl ?_
  refine zP_iast (zSt_ar hs 77 4 rfl) (by first | assumption | with_reducible exact vp_in_nI (by omega) (by omega) | (simp (disch := omega) only [nI_add, pk_mul, pk_sub, pk_div, pk_rem, nI_clamp]; with_reducible exact vp_in_nI (by omega) (by omega))) dX13_tellsNothing_13 ?_
  refine zJ_aload_n dX13_tellsNothing_14 rfl ?_
  refine zP_getr lf_X13_20 (zSt_ob hs 74 13 rfl) rfl (zSt_rf hs 74 11 77 rfl) dX13_tellsNothing_15 ?_
  refine zJ_iconst (v := nI 2) dX13_tellsNothing_18 rfl ?_
  refine zJ_iconst (v := nI 0) dX13_tellsNothing_19 rfl ?_
  refine zP_iast (zSt_ar hs 77 4 rfl) (by first | assumption | with_reducible exact vp_in_nI (by omega) (by omega) | (simp (disch := omega) only [nI_add, pk_mul, pk_sub, pk_div, pk_rem, nI_clamp]; with_reducible exact vp_in_nI (by omega) (by omega))) dX13_tellsNothing_20 ?_
  refine zJ_aload_n dX13_tellsNothing_21 rfl ?_
  refine zP_getr lf_X13_20 (zSt_ob hs 74 13 rfl) rfl (zSt_rf hs 74 11 77 rfl) dX13_tellsNothing_22 ?_
  refine zJ_iconst (v := nI 3) dX13_tellsNothing_25 rfl ?_
  refine zJ_iconst (v := nI 1) dX13_tellsNothing_26 rfl ?_
  refine zP_iast (zSt_ar hs 77 4 rfl) (by first | assumption | with_reducible exact vp_in_nI (by omega) (by omega) | (simp (disch := omega) only [nI_add, pk_mul, pk_sub, pk_div, pk_rem, nI_clamp]; with_reducible exact vp_in_nI (by omega) (by omega))) dX13_tellsNothing_27 ?_
  refine zJ_iconst (v := nI 0) dX13_tellsNothing_28 rfl ?_
  refine zJ_istore_m 1 dX13_tellsNothing_29 rfl (Nat.le_of_ble_eq_true rfl) (by decide) ?_
  rw [nI_clamp (n := 0) (by omega), nI_clamp (n := 1) (by omega), nI_clamp (n := 2) (by omega), nI_clamp (n := 3) (by omega)]
  refine zJ_back (zle_r (zle_r zle_0)) rfl (loop 64 0 _ (by omega) (fun a q1 _ _ => by rw [zup_row q1, zup_row q1, zup_row q1, zup_row q1]) ⟨?_, ?_, ?_, ?_⟩ (fun q hq => absurd hq (Nat.not_lt_zero _)))
  · rw [zup_same, upd_ne (by decide), zup_same, upd_ne (by decide), zup_same, upd_ne (by decide), zup_same, upd_at]
  · rw [zup_same, upd_ne (by decide), zup_same, upd_ne (by decide), zup_same, upd_at]
  · rw [zup_same, upd_ne (by decide), zup_same, upd_at]
  · rw [zup_same, upd_at]
def fst (I J : zI) : Prop := (∀ a, a ≠ 74 → J a = I a) ∧ ∀ k, k ≠ 1 → k ≠ 2 → k ≠ 4 → k ≠ 5 → k ≠ 6 → k ≠ 7 → k ≠ 8 → J 74 k = I 74 k
theorem m_starts (hl : l.stackTraces = false) (hd : 3 ≤ d) (hs : zSt g) {fed L : Nat} {bs : Nat → Nat} (h : rTp I fed bs) (hL : L ≤ fed) : zEv l Xi mX13_starts d [.ref 74, .int (nI L)] I g (fun J => fst I J ∧ rz J bs L (sk bs L 0) none ∧ J 74 1 = nI 0 ∧ J 74 7 = nI 0 ∧ J 74 8 = nI 0) := by
  refine zC_of hl rfl rfl rfl (Nat.le_of_ble_eq_true rfl) (zav_r (zSt_ob hs 74 13 rfl).1 (zav_i zav_0)) ?_
  obtain ⟨h1, h2, h3⟩ := h
  obtain ⟨J, hJ⟩ : ∃ J, zup (zup (zup (zup (zup (zup (zup I 74 1 (nI 0)) 74 2 (nI L)) 74 4 (nI 0)) 74 5 (nI 0)) 74 6 (-1)) 74 7 (nI 0)) 74 8 (nI 0) = J := ⟨_, rfl⟩
  have e : ∀ a, a ≠ 74 → J a = I a := fun a q => by rw [← hJ, zup_row q, zup_row q, zup_row q, zup_row q, zup_row q, zup_row q, zup_row q]
  have f : ∀ k, k ≠ 1 → k ≠ 2 → k ≠ 4 → k ≠ 5 → k ≠ 6 → k ≠ 7 → k ≠ 8 → J 74 k = I 74 k := fun k q1 q2 q4 q5 q6 q7 q8 => by rw [← hJ, zup_same, upd_ne q8, zup_same, upd_ne q7, zup_same, upd_ne q6, zup_same, upd_ne q5, zup_same, upd_ne q4, zup_same, upd_ne q2, zup_same, upd_ne q1]
  have j8 : J 74 8 = nI 0 := by rw [← hJ, zup_same, upd_at]
  have j7 : J 74 7 = nI 0 := by rw [← hJ, zup_same, upd_ne (by decide), zup_same, upd_at]
  have j6 : J 74 6 = -1 := by rw [← hJ, zup_same, upd_ne (by decide), zup_same, upd_ne (by decide), zup_same, upd_at]
  have j5 : J 74 5 = nI 0 := by rw [← hJ, zup_same, upd_ne (by decide), zup_same, upd_ne (by decide), zup_same, upd_ne (by decide), zup_same, upd_at]
  have j4 : J 74 4 = nI 0 := by rw [← hJ, zup_same, upd_ne (by decide), zup_same, upd_ne (by decide), zup_same, upd_ne (by decide), zup_same, upd_ne (by decide), zup_same, upd_at]
  have j2 : J 74 2 = nI L := by rw [← hJ, zup_same, upd_ne (by decide), zup_same, upd_ne (by decide), zup_same, upd_ne (by decide), zup_same, upd_ne (by decide), zup_same, upd_ne (by decide), zup_same, upd_at]
  have j1 : J 74 1 = nI 0 := by rw [← hJ, zup_same, upd_ne (by decide), zup_same, upd_ne (by decide), zup_same, upd_ne (by decide), zup_same, upd_ne (by decide), zup_same, upd_ne (by decide), zup_same, upd_ne (by decide), zup_same, upd_at]
  have hz : rz J bs L 0 none := ⟨j2, by omega, j4, Nat.zero_le _, j5, j6, fun q hq => (by cases hq), fun k hk => by rw [e 75 (by decide)]; exact h3 k (by omega)⟩
  refine zJ_aload_n dX13_starts_0 rfl ?_
  refine zJ_iconst (v := nI 0) dX13_starts_1 rfl ?_
  refine zP_puti lf_X13_110 (zSt_ob hs 74 13 rfl) rfl dX13_starts_2 ?_
  refine zJ_aload_n dX13_starts_5 rfl ?_
  refine zJ_iload_n dX13_starts_6 rfl ?_
  refine zP_puti lf_X13_113 (zSt_ob hs 74 13 rfl) rfl dX13_starts_7 ?_
  refine zJ_aload_n dX13_starts_10 rfl ?_
  refine zJ_iconst (v := nI 0) dX13_starts_11 rfl ?_
  refine zP_puti lf_X13_116 (zSt_ob hs 74 13 rfl) rfl dX13_starts_12 ?_
  refine zJ_aload_n dX13_starts_15 rfl ?_
  refine zJ_iconst (v := nI 0) dX13_starts_16 rfl ?_
  refine zP_puti lf_X13_123 (zSt_ob hs 74 13 rfl) rfl dX13_starts_17 ?_
  refine zJ_aload_n dX13_starts_20 rfl ?_
  refine zJ_iconst (v := -1) dX13_starts_21 rfl ?_
  refine zP_puti lf_X13_126 (zSt_ob hs 74 13 rfl) rfl dX13_starts_22 ?_
  refine zJ_aload_n dX13_starts_25 rfl ?_
  refine zJ_iconst (v := nI 0) dX13_starts_26 rfl ?_
  refine zP_puti lf_X13_163 (zSt_ob hs 74 13 rfl) rfl dX13_starts_27 ?_
  refine zJ_aload_n dX13_starts_30 rfl ?_
  refine zJ_iconst (v := nI 0) dX13_starts_31 rfl ?_
  refine zP_puti lf_X13_166 (zSt_ob hs 74 13 rfl) rfl dX13_starts_32 ?_
  rw [hJ]
  refine zJ_aload_n dX13_starts_35 rfl ?_
  refine zP_ecallVv [] _ lv_X13_129 (m_blanks (d := d - 1) hl (by omega) hs hz) (zSt_ob hs 74 13 rfl) rfl (by omega) (Nat.le_of_ble_eq_true rfl) rfl dX13_starts_36 (fun K hK => ?_)
  refine zJ_vret rfl dX13_starts_39 ?_
  obtain ⟨k1, k2⟩ := hK
  exact ⟨rfl, K, rfl, ⟨fun a q => by rw [k1.1 a q, e a q], fun k q1 q2 q4 q5 q6 q7 q8 => by rw [k1.2 k q4 q5 q6, f k q1 q2 q4 q5 q6 q7 q8]⟩, k2, by rw [k1.2 1 (by decide) (by decide) (by decide)]; exact j1, by rw [k1.2 7 (by decide) (by decide) (by decide)]; exact j7, by rw [k1.2 8 (by decide) (by decide) (by decide)]; exact j8⟩
theorem m_ends (hl : l.stackTraces = false) (hd : 1 ≤ d) (hs : zSt g) {bs : Nat → Nat} {L A : Nat} {q : Nat × Nat} (h : rz I bs L A (some q)) : zD l Xi mX13_ends d [.ref 74] I g (some (.int (errV q))) (zup I 74 3 (nI q.2)) := by
  refine zC_of hl rfl rfl rfl (Nat.le_of_ble_eq_true rfl) (zav_r (zSt_ob hs 74 13 rfl).1 zav_0) ?_
  obtain ⟨h1, h2, h3, h4, h5, h6, h7, h8⟩ := h
  refine zJ_aload_n dX13_ends_0 rfl ?_
  refine zJ_aload_n dX13_ends_1 rfl ?_
  refine zP_geti lf_X13_126 (zSt_ob hs 74 13 rfl) rfl dX13_ends_2 ?_
  rw [h6]
  refine zP_puti lf_X13_9 (zSt_ob hs 74 13 rfl) rfl dX13_ends_5 ?_
  refine zJ_aload_n dX13_ends_8 rfl ?_
  refine zP_geti lf_X13_123 (zSt_ob hs 74 13 rfl) rfl dX13_ends_9 ?_
  rw [zup_same, upd_ne (by decide), h5]
  refine zJ_bipush (v := nI 10) dX13_ends_12 rfl ?_
  refine zJ_isub dX13_ends_14 ?_
  refine zJ_iret rfl dX13_ends_15 ?_
  exact ⟨rfl, rfl⟩
/-- a text that changes nothing but the tape and its place -/
theorem rI_txt {J : zI} {S : sT} {x : Int32} (hI : rI I S) (e : ∀ a, a = 76 ∨ a = 78 ∨ a = 81 ∨ (90 ≤ a ∧ a ≤ 95) ∨ (104 ≤ a ∧ a ≤ 109) ∨ (111 ≤ a ∧ a ≤ 270) ∨ (433 ≤ a ∧ a ≤ 440) ∨ a = 533 ∨ (537 ≤ a ∧ a ≤ 552) ∨ (554 ≤ a ∧ a ≤ 556) → J a = I a) (f : ∀ k, k = 20 ∨ k = 35 ∨ k = 36 ∨ k = 37 ∨ k = 38 → J 74 k = I 74 k) (t : J 74 1 = nI 0) (w : J 74 3 = x) : rI J ((0, S.1.2.1, x), S.2) := by
  obtain ⟨h1, h2, h3, h4, h5, h6, h7, h8, h9, h10⟩ := hI
  exact ⟨⟨t, Nat.zero_le _, fun k hk => absurd hk (Nat.not_lt_zero _)⟩, w, rB_of h3 (f 20 (by decide)) (fun a ha => e a (by omega)), rRow_of h4 (e 533 (by decide)), rLn_of h5 (f 35 (by decide)) (fun a q1 q2 => e a (by omega)), rWs_of h6 (f 36 (by decide)) (fun a q1 q2 => e a (by omega)), rIm_of h7 (f 38 (by decide)) (fun a q1 q2 => e a (by omega)), by rw [f 37 (by decide)]; exact h8, by rw [e 76 (by decide)]; exact h9, by rw [e 76 (by decide)]; exact h10⟩
theorem pBoard_sk {bs : Nat → Nat} {L k cl A : Nat} {r : zRb} : pBoard bs L (k + 1) cl r (sk bs L A) = pBoard bs L (k + 1) cl r A := by
  have e : pClause bs L cl r (sk bs L A) = pClause bs L cl r A := by unfold pClause; rw [sk_sk, woE_sk]
  simp only [pBoard]
  rw [sk_sk, e]
def rbdQ (S : sT) (L : Nat) (I : zI) (v : Int32) (J : zI) : Prop := J 74 0 = nI 0 ∧ rO I J ∧ match pBoard S.1.2.1 L 61 0 rb0 0 with
  | .inl q => v = errV q ∧ rI J (fltS S q.2)
  | .inr q => v = nI (rN q.1) ∧ ∀ lim crt, (∀ n, n < rN q.1 → lim n = nI (rlm q.1 n) ∧ crt n = nI (rcr q.1 n)) → rI J (bdS S q.1 lim crt)
set_option maxHeartbeats 1000000 in
theorem m_board (hl : l.stackTraces = false) (hd : 12 ≤ d) (hs : zSt g) {S : sT} (hI : rI I S) {L : Nat} (hL : L ≤ S.1.1) : zEi l Xi mX13_board d [.ref 74, .int (nI L)] I g (rbdQ S L I) := by
  refine zC_of hl rfl rfl rfl (Nat.le_of_ble_eq_true rfl) (zav_r (zSt_ob hs 74 13 rfl).1 (zav_i zav_0)) ?_
  have hI0 := rI_rQ hI (rQ_thr (x := nI 0))
  have h600 := hI.1.2.1
  have htp : (zup I 74 0 (nI 0)) 74 1 = nI S.1.1 := hI0.1.1
  obtain ⟨bs, hbs⟩ : ∃ bs, S.1.2.1 = bs := ⟨_, rfl⟩
  obtain ⟨R, hR⟩ : ∃ R, pBoard bs L 61 0 rb0 0 = R := ⟨_, rfl⟩
  obtain ⟨P, hP⟩ : ∃ P : zR → zH → Prop, P = (fun r' h' => ∃ v J, r' = .inl (some (.int v)) ∧ h' = (J, g) ∧ rbdQ S L I v J) := ⟨_, rfl⟩
  obtain ⟨E, hE⟩ : ∃ E : zI → Prop, E = fun J => (∀ a, a ≠ 74 → a ≠ 77 → a ≠ 79 → a ≠ 80 → (a < 83 ∨ 88 < a) → (a < 97 ∨ 102 < a) → J a = I a) ∧ (∀ k, k ≠ 0 → k ≠ 1 → k ≠ 2 → k ≠ 4 → k ≠ 5 → k ≠ 6 → k ≠ 7 → k ≠ 8 → J 74 k = I 74 k) ∧ J 74 0 = nI 0 ∧ J 74 1 = nI 0 := ⟨_, rfl⟩
  have Efcl : ∀ {J K : zI}, E J → fcl J K → E K := by
    intro J K h1 h2
    rw [hE] at h1 ⊢
    exact ⟨fun a q1 q2 q3 q4 q5 q6 => (h2.1 a q1 q2 q3 q4 q5 q6).trans (h1.1 a q1 q2 q3 q4 q5 q6), fun k q0 q1 q2 q4 q5 q6 q7 q8 => (h2.2 k q4 q5 q6 q7).trans (h1.2.1 k q0 q1 q2 q4 q5 q6 q7 q8), (h2.2 0 (by decide) (by decide) (by decide) (by decide)).trans h1.2.2.1, (h2.2 1 (by decide) (by decide) (by decide) (by decide)).trans h1.2.2.2⟩
  have bad : ∀ (J : zI) (A : Nat) (q : Nat × Nat), E J → rz J bs L A (some q) → R = .inl q → zJ l Xi mX13_board d 0 0 42 [some (.ref 74), some (.int (nI L))] [] (J, g) P := by
    intro J A q e hz hRq
    rw [hE] at e
    have hq := hz.2.2.2.2.2.2.1 q rfl
    have hne : ¬ J 74 5 = 0 := by rw [hz.2.2.2.2.1]; exact nI_ne0 (by show 0 < q.1; omega) (by show q.1 < _; omega)
    rw [hP]
    refine zJ_aload_n dX13_board_42 rfl ?_
    refine zP_geti lf_X13_123 (zSt_ob hs 74 13 rfl) rfl dX13_board_43 ?_
    refine zJ_if_ne 71 dX13_board_46 (by decide) (fun _ => ?_) (fun c46 => absurd c46 hne)
    refine zJ_aload_n dX13_board_71 rfl ?_
    refine zP_geti lf_X13_123 (zSt_ob hs 74 13 rfl) rfl dX13_board_72 ?_
    refine zJ_if_eq 83 dX13_board_75 (by decide) (fun c75 => absurd c75 hne) (fun _ => ?_)
    refine zJ_aload_n dX13_board_78 rfl ?_
    refine zP_callVi [] _ lv_X13_196 (m_ends (d := d - 1) hl (by omega) hs hz) (zSt_ob hs 74 13 rfl) rfl (by omega) (Nat.le_of_ble_eq_true rfl) rfl dX13_board_79 ?_
    refine zJ_iret rfl dX13_board_82 ?_
    refine ⟨_, _, rfl, rfl, by rw [zup_same, upd_ne (by decide)]; exact e.2.2.1, fun a ha => by rw [zup_row (by omega)]; exact e.1 a (by omega) (by omega) (by omega) (by omega) (by omega) (by omega), ?_⟩
    rw [hbs, hR, hRq]
    refine ⟨rfl, ?_⟩
    unfold fltS
    exact rI_txt hI (fun a ha => by rw [zup_row (by omega)]; exact e.1 a (by omega) (by omega) (by omega) (by omega) (by omega) (by omega)) (fun k hk => by rw [zup_same, upd_ne (by omega)]; exact e.2.1 k (by omega) (by omega) (by omega) (by omega) (by omega) (by omega) (by omega) (by omega)) (by rw [zup_same, upd_ne (by decide)]; exact e.2.2.2) (by rw [zup_same, upd_at])
  have good : ∀ (J : zI) (A : Nat) (r : zRb), E J → rz J bs L A none → L ≤ A → rRb J r → rbOk r → R = .inr (r, A) → zJ l Xi mX13_board d 0 0 42 [some (.ref 74), some (.int (nI L))] [] (J, g) P := by
    intro J A r e hz hLA hr hok hRr
    rw [hE] at e
    have hAL := hz.2.2.2.1
    have hrz : rRb (zup J 74 3 (-1)) r := rRb_of hok.1.2.2.2.2.1 hr (fun a ha => zup_row (by omega))
    rw [hP]
    refine zJ_aload_n dX13_board_42 rfl ?_
    refine zP_geti lf_X13_123 (zSt_ob hs 74 13 rfl) rfl dX13_board_43 ?_
    refine zJ_if_ne 71 dX13_board_46 (by decide) (fun c46 => absurd hz.2.2.2.2.1 c46) (fun _ => ?_)
    refine zJ_aload_n dX13_board_49 rfl ?_
    refine zP_geti lf_X13_116 (zSt_ob hs 74 13 rfl) rfl dX13_board_50 ?_
    refine zJ_aload_n dX13_board_53 rfl ?_
    refine zP_geti lf_X13_113 (zSt_ob hs 74 13 rfl) rfl dX13_board_54 ?_
    rw [hz.2.2.1, hz.1]
    refine zJ_icmp_ge 71 dX13_board_57 (by decide) (fun _ => ?_) (fun c57 => absurd (nI_le (by omega) (by omega)) c57)
    refine zJ_aload_n dX13_board_71 rfl ?_
    refine zP_geti lf_X13_123 (zSt_ob hs 74 13 rfl) rfl dX13_board_72 ?_
    refine zJ_if_eq 83 dX13_board_75 (by decide) (fun _ => ?_) (fun c75 => absurd hz.2.2.2.2.1 c75)
    refine zJ_aload_n dX13_board_83 rfl ?_
    refine zJ_iconst (v := -1) dX13_board_84 rfl ?_
    refine zP_puti lf_X13_9 (zSt_ob hs 74 13 rfl) rfl dX13_board_85 ?_
    refine zJ_aload_n dX13_board_88 rfl ?_
    refine zP_ecallVv [] _ lv_X13_104 (m_beginsAnew (d := d - 1) hl (by omega) hs hrz hok) (zSt_ob hs 74 13 rfl) rfl (by omega) (Nat.le_of_ble_eq_true rfl) rfl dX13_board_89 (fun K hK => ?_)
    refine zJ_aload_n dX13_board_92 rfl ?_
    refine zP_getr lf_X13_23 (zSt_ob hs 74 13 rfl) rfl (zSt_rf hs 74 12 78 rfl) dX13_board_93 ?_
    refine zJ_iconst (v := nI 2) dX13_board_96 rfl ?_
    refine zP_iald (zSt_ar hs 78 4 rfl) (by first | assumption | with_reducible exact vp_in_nI (by omega) (by omega) | (simp (disch := omega) only [nI_add, pk_mul, pk_sub, pk_div, pk_rem, nI_clamp]; with_reducible exact vp_in_nI (by omega) (by omega))) dX13_board_97 ?_
    refine zJ_iret rfl dX13_board_98 ?_
    obtain ⟨kf, k0, kt, kn, kw, kr1, kr2, kr3, kr4⟩ := hK
    have eK : ∀ a, a ≠ 74 → a ≠ 78 → a ≠ 81 → (a < 90 ∨ 95 < a) → (a < 104 ∨ 109 < a) → a ≠ 533 → K a = J a := fun a q1 q2 q3 q4 q5 q6 => by rw [kf.1 a q1 q2 q3 q4 q5 q6, zup_row q1]
    have fK : ∀ k, k ≠ 20 → k ≠ 35 → k ≠ 36 → k ≠ 37 → k ≠ 38 → k ≠ 3 → K 74 k = J 74 k := fun k q1 q2 q3 q4 q5 q6 => by rw [kf.2 k q1 q2 q3 q4 q5, zup_same, upd_ne q6]
    refine ⟨_, K, rfl, rfl, by rw [fK 0 (by decide) (by decide) (by decide) (by decide) (by decide) (by decide)]; exact e.2.2.1, fun a ha => by rw [eK a (by omega) (by omega) (by omega) (by omega) (by omega) (by omega)]; exact e.1 a (by omega) (by omega) (by omega) (by omega) (by omega) (by omega), ?_⟩
    rw [hbs, hR, hRr]
    refine ⟨by rw [nI_clamp (by omega)]; exact kt.2.2.1, fun lim crt hlc => ?_⟩
    have hbW := bdW_ok (lim := lim) hok
    unfold bdS
    refine ⟨⟨by rw [fK 1 (by decide) (by decide) (by decide) (by decide) (by decide) (by decide)]; exact e.2.2.2, Nat.zero_le _, fun k hk => absurd hk (Nat.not_lt_zero _)⟩, by rw [kf.2 3 (by decide) (by decide) (by decide) (by decide) (by decide), zup_same, upd_at], ⟨hbW, kt, kw, fun n hn => ?_, fun n i hn hi => ?_, Or.inl ⟨k0 20 (by decide), rfl, fun _ _ => rfl⟩⟩, ⟨fun k hk => ?_, fun n hn => ?_, ?_⟩, ⟨k0 35 (by decide), Nat.zero_le _, fun i hi => absurd hi (Nat.not_lt_zero _)⟩, ⟨k0 36 (by decide), Nat.zero_le _, fun i hi => absurd hi (Nat.not_lt_zero _)⟩, ⟨k0 38 (by decide), Nat.zero_le _, fun i hi => absurd hi (Nat.not_lt_zero _)⟩, k0 37 (by decide), ?_, ?_⟩
    · have hn2 : n < rN r := hn
      exact ⟨(kn n hn2).1.trans (hlc n hn2).1.symm, (kn n hn2).2.1⟩
    · have hn2 : n < rN r := hn
      exact ((kn n hn2).2.2.2 i hi).1
    · show K 533 k = bdR r crt k
      unfold bdR
      by_cases z : k < 384
      · rw [if_pos z, kr1 k (by omega), if_pos z]
      · rw [if_neg z]
        by_cases z2 : k < 448
        · rw [if_pos z2, kr1 k z2, if_neg z]
        · rw [if_neg z2, if_pos hk]
          have h9 := kr2 (k - 448) (by omega)
          rw [show 448 + (k - 448) = k by omega] at h9
          exact h9
    · have hn2 : n < rN r := hn
      have hn6 := hok.1.2.2.2.2.1
      show K 533 (512 + n) = bdR r crt (512 + n)
      unfold bdR
      rw [if_neg (by omega), if_neg (by omega), if_neg (by omega), if_pos (by omega), Nat.add_sub_cancel_left, kr3 n hn2]
      exact (hlc n hn2).2.symm
    · show K 533 518 = bdR r crt 518
      exact kr4
    · rw [eK 76 (by decide) (by decide) (by decide) (by decide) (by decide) (by decide), e.1 76 (by decide) (by decide) (by decide) (by decide) (by decide) (by decide)]; exact hI.2.2.2.2.2.2.2.2.1
    · rw [eK 76 (by decide) (by decide) (by decide) (by decide) (by decide) (by decide), e.1 76 (by decide) (by decide) (by decide) (by decide) (by decide) (by decide)]; exact hI.2.2.2.2.2.2.2.2.2
  have loop : ∀ k cl (J : zI) (B : Nat) (r : zRb), cl + (k + 1) = 61 → E J → rz J bs L B none → sk bs L B = B → rRb J r → rbOk r → J 74 7 = nI cl → pBoard bs L (k + 1) cl r B = R → zJ l Xi mX13_board d 0 0 42 [some (.ref 74), some (.int (nI L))] [] (J, g) P := by
    intro k
    induction k with
    | zero =>
      intro cl J B r hcl e hz hB hr hok h7 hp
      obtain rfl : cl = 60 := by omega
      have hBL := hz.2.2.2.1
      rw [pBoard, hB] at hp
      by_cases z : L ≤ B
      · rw [if_pos z] at hp
        exact good J B r e hz z hr hok hp.symm
      · rw [if_neg z] at hp
        refine zJ_aload_n dX13_board_42 rfl ?_
        refine zP_geti lf_X13_123 (zSt_ob hs 74 13 rfl) rfl dX13_board_43 ?_
        refine zJ_if_ne 71 dX13_board_46 (by decide) (fun c46 => absurd hz.2.2.2.2.1 c46) (fun _ => ?_)
        refine zJ_aload_n dX13_board_49 rfl ?_
        refine zP_geti lf_X13_116 (zSt_ob hs 74 13 rfl) rfl dX13_board_50 ?_
        refine zJ_aload_n dX13_board_53 rfl ?_
        refine zP_geti lf_X13_113 (zSt_ob hs 74 13 rfl) rfl dX13_board_54 ?_
        rw [hz.2.2.1, hz.1]
        refine zJ_icmp_ge 71 dX13_board_57 (by decide) (fun c57 => absurd c57 (nI_ge (by omega) (by omega))) (fun _ => ?_)
        refine zJ_aload_n dX13_board_60 rfl ?_
        refine zP_ecallVv [] _ lv_X13_193 (m_clause (d := d - 1) hl (by omega) hs hz hr hok (by omega) h7) (zSt_ob hs 74 13 rfl) rfl (by omega) (Nat.le_of_ble_eq_true rfl) rfl dX13_board_61 (fun K hK => ?_)
        obtain ⟨kf, kp⟩ := hK
        cases hc : pClause bs L 60 r B with
        | inl q =>
          rw [hc] at kp hp
          obtain ⟨A', hz', -⟩ := kp
          refine zJ_aload_n dX13_board_64 rfl ?_
          refine zP_ecallVv [] _ lv_X13_129 (m_blanks (d := d - 1) hl (by omega) hs hz') (zSt_ob hs 74 13 rfl) rfl (by omega) (Nat.le_of_ble_eq_true rfl) rfl dX13_board_65 (fun K2 hK2 => ?_)
          refine zJ_goto 42 dX13_board_68 (by decide) ?_
          exact zJ_back (zle_r (zle_r zle_0)) rfl (bad K2 _ q (Efcl (Efcl e kf) (fcl_ft hK2.1)) hK2.2 hp.symm)
        | inr q =>
          exfalso
          unfold pClause at hc
          simp only [] at hc
          split at hc
          · cases hc
          · rw [if_pos (Or.inl (Nat.le_refl _))] at hc; cases hc
    | succ k ih =>
      intro cl J B r hcl e hz hB hr hok h7 hp
      have hBL := hz.2.2.2.1
      rw [pBoard, hB] at hp
      by_cases z : L ≤ B
      · rw [if_pos z] at hp
        exact good J B r e hz z hr hok hp.symm
      · rw [if_neg z] at hp
        refine zJ_aload_n dX13_board_42 rfl ?_
        refine zP_geti lf_X13_123 (zSt_ob hs 74 13 rfl) rfl dX13_board_43 ?_
        refine zJ_if_ne 71 dX13_board_46 (by decide) (fun c46 => absurd hz.2.2.2.2.1 c46) (fun _ => ?_)
        refine zJ_aload_n dX13_board_49 rfl ?_
        refine zP_geti lf_X13_116 (zSt_ob hs 74 13 rfl) rfl dX13_board_50 ?_
        refine zJ_aload_n dX13_board_53 rfl ?_
        refine zP_geti lf_X13_113 (zSt_ob hs 74 13 rfl) rfl dX13_board_54 ?_
        rw [hz.2.2.1, hz.1]
        refine zJ_icmp_ge 71 dX13_board_57 (by decide) (fun c57 => absurd c57 (nI_ge (by omega) (by omega))) (fun _ => ?_)
        refine zJ_aload_n dX13_board_60 rfl ?_
        refine zP_ecallVv [] _ lv_X13_193 (m_clause (d := d - 1) hl (by omega) hs hz hr hok (by omega) h7) (zSt_ob hs 74 13 rfl) rfl (by omega) (Nat.le_of_ble_eq_true rfl) rfl dX13_board_61 (fun K hK => ?_)
        obtain ⟨kf, kp⟩ := hK
        cases hc : pClause bs L cl r B with
        | inl q =>
          rw [hc] at kp hp
          obtain ⟨A', hz', -⟩ := kp
          refine zJ_aload_n dX13_board_64 rfl ?_
          refine zP_ecallVv [] _ lv_X13_129 (m_blanks (d := d - 1) hl (by omega) hs hz') (zSt_ob hs 74 13 rfl) rfl (by omega) (Nat.le_of_ble_eq_true rfl) rfl dX13_board_65 (fun K2 hK2 => ?_)
          refine zJ_goto 42 dX13_board_68 (by decide) ?_
          exact zJ_back (zle_r (zle_r zle_0)) rfl (bad K2 _ q (Efcl (Efcl e kf) (fcl_ft hK2.1)) hK2.2 hp.symm)
        | inr q =>
          obtain ⟨r', A'⟩ := q
          rw [hc] at kp hp
          obtain ⟨hz', hr', hok', h7'⟩ := rP_ok kp
          refine zJ_aload_n dX13_board_64 rfl ?_
          refine zP_ecallVv [] _ lv_X13_129 (m_blanks (d := d - 1) hl (by omega) hs hz') (zSt_ob hs 74 13 rfl) rfl (by omega) (Nat.le_of_ble_eq_true rfl) rfl dX13_board_65 (fun K2 hK2 => ?_)
          refine zJ_goto 42 dX13_board_68 (by decide) ?_
          exact zJ_back (zle_r (zle_r zle_0)) rfl (ih (cl + 1) K2 (sk bs L A') r' (by omega) (Efcl (Efcl e kf) (fcl_ft hK2.1)) hK2.2 sk_sk (rRb_ft hok'.1.2.2.2.2.1 hr' hK2.1) hok' ((hK2.1.2 7 (by decide) (by decide) (by decide)).trans h7') (pBoard_sk.trans hp))
  rw [← hP]
  refine zJ_aload_n dX13_board_0 rfl ?_
  refine zJ_iconst (v := nI 0) dX13_board_1 rfl ?_
  refine zP_puti lf_X13_107 (zSt_ob hs 74 13 rfl) rfl dX13_board_2 ?_
  refine zJ_aload_n dX13_board_5 rfl ?_
  refine zJ_iload_n dX13_board_6 rfl ?_
  refine zJ_iconst (v := nI 0) dX13_board_7 rfl ?_
  refine zJ_aload_n dX13_board_8 rfl ?_
  refine zP_geti lf_X13_110 (zSt_ob hs 74 13 rfl) rfl dX13_board_9 ?_
  rw [htp]
  refine zP_callSi [_, _, _] _ ls_X13_141 (k_in (d := d - 1) hl (by omega)) rfl (by omega) (Nat.le_of_ble_eq_true rfl) rfl dX13_board_12 ?_
  rw [in_ok (Nat.zero_le _) hL (by omega)]
  refine zJ_if_ne 22 dX13_board_15 (by decide) (fun _ => ?_) (fun c15 => absurd c15 (by decide))
  refine zJ_iconst (v := nI 0) dX13_board_22 rfl ?_
  refine zJ_iconst (v := nI 1) dX13_board_23 rfl ?_
  refine zJ_iconst (v := nI 1) dX13_board_24 rfl ?_
  refine zP_callVi [_, _, _] _ lv_X13_186 (m_badF (d := d - 1) hl (by omega) hs thr_at) (zSt_ob hs 74 13 rfl) rfl (by omega) (Nat.le_of_ble_eq_true rfl) rfl dX13_board_25 ?_
  refine zJ_if_eq 33 dX13_board_28 (by decide) (fun _ => ?_) (fun c28 => absurd rfl c28)
  refine zJ_aload_n dX13_board_33 rfl ?_
  refine zJ_iload_n dX13_board_34 rfl ?_
  refine zP_ecallVv [_] _ lv_X13_190 (m_starts (d := d - 1) hl (by omega) hs hI0.1 hL) (zSt_ob hs 74 13 rfl) rfl (by omega) (Nat.le_of_ble_eq_true rfl) rfl dX13_board_35 (fun J1 h1 => ?_)
  refine zJ_aload_n dX13_board_38 rfl ?_
  refine zP_ecallVv [] _ lv_X13_101 (m_tellsNothing (d := d - 1) hl (by omega) hs) (zSt_ob hs 74 13 rfl) rfl (by omega) (Nat.le_of_ble_eq_true rfl) rfl dX13_board_39 (fun J2 h2 => ?_)
  obtain ⟨a1, a2, a3, a4, a5⟩ := h1
  rw [hbs] at a2
  refine zJ_back (zle_r (zle_r zle_0)) rfl (loop 60 0 J2 (sk bs L 0) rb0 (by omega) ?_ (rz_of a2 (fun k _ => by rw [h2.1 74 (by decide) (by decide) (by decide)]) (h2.1 75 (by decide) (by decide) (by decide))) sk_sk h2.2 rb0_ok (by rw [h2.1 74 (by decide) (by decide) (by decide)]; exact a4) (pBoard_sk.trans hR))
  rw [hE]
  exact ⟨fun a q1 q2 q3 q4 q5 q6 => by rw [h2.1 a q2 q3 q4, a1.1 a q1, zup_row q1], fun k q0 q1 q2 q4 q5 q6 q7 q8 => by rw [h2.1 74 (by decide) (by decide) (by decide), a1.2 k q1 q2 q4 q5 q6 q7 q8, thr_ne q0], by rw [h2.1 74 (by decide) (by decide) (by decide), a1.2 0 (by decide) (by decide) (by decide) (by decide) (by decide) (by decide) (by decide)]; exact thr_at, by rw [h2.1 74 (by decide) (by decide) (by decide)]; exact a3⟩
theorem m_boardN (hl : l.stackTraces = false) (hd : 12 ≤ d) (hs : zSt g) {S : sT} (hI : rI I S) {x : Int32} (hno : decide (¬ x < nI 0 ∧ x ≤ nI S.1.1) = false) : zEi l Xi mX13_board d [.ref 74, .int x] I g (fun v J => J 74 0 = nI 1 ∧ rI J (rfU S false) ∧ rQ2 I J) := by
  refine zC_of hl rfl rfl rfl (Nat.le_of_ble_eq_true rfl) (zav_r (zSt_ob hs 74 13 rfl).1 (zav_i zav_0)) ?_
  have htp : (zup I 74 0 (nI 0)) 74 1 = nI S.1.1 := (rI_rQ hI (rQ_thr (x := nI 0))).1.1
  obtain ⟨k1, k2, k3⟩ := rI_bad (w := 1) (k := false) hI
  refine zJ_aload_n dX13_board_0 rfl ?_
  refine zJ_iconst (v := nI 0) dX13_board_1 rfl ?_
  refine zP_puti lf_X13_107 (zSt_ob hs 74 13 rfl) rfl dX13_board_2 ?_
  refine zJ_aload_n dX13_board_5 rfl ?_
  refine zJ_iload_n dX13_board_6 rfl ?_
  refine zJ_iconst (v := nI 0) dX13_board_7 rfl ?_
  refine zJ_aload_n dX13_board_8 rfl ?_
  refine zP_geti lf_X13_110 (zSt_ob hs 74 13 rfl) rfl dX13_board_9 ?_
  rw [htp]
  refine zP_callSi [_, _, _] _ ls_X13_141 (k_in (d := d - 1) hl (by omega)) rfl (by omega) (Nat.le_of_ble_eq_true rfl) rfl dX13_board_12 ?_
  rw [hno]
  refine zJ_if_ne 22 dX13_board_15 (by decide) (fun c15 => absurd rfl c15) (fun _ => ?_)
  refine zJ_iconst (v := nI 1) dX13_board_18 rfl ?_
  refine zJ_goto 23 dX13_board_19 (by decide) ?_
  refine zJ_iconst (v := nI 1) dX13_board_23 rfl ?_
  refine zJ_iconst (v := nI 1) dX13_board_24 rfl ?_
  refine zP_callVi [_, _, _] _ lv_X13_186 (m_badT (d := d - 1) (w := 1) (r := 1) hl (by omega) hs thr_at (by omega) (by omega)) (zSt_ob hs 74 13 rfl) rfl (by omega) (Nat.le_of_ble_eq_true rfl) rfl dX13_board_25 ?_
  refine zJ_if_eq 33 dX13_board_28 (by decide) (fun c28 => absurd c28 (by decide)) (fun _ => ?_)
  refine zJ_iconst (v := nI 0) dX13_board_31 rfl ?_
  refine zJ_iret rfl dX13_board_32 ?_
  exact ⟨_, _, rfl, rfl, k2, k1, k3⟩
end ZRefAI
