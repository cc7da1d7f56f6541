/-! ===== the reference: a tree grows ===== -/
section ZRefF
variable {l : Launch} {Xi : zXi} {d : Nat} {I : zI} {g : zG}
def rH (a : Nat) (I J : zI) : Prop := ∀ c, c ≠ a → c ≠ 450 → c ≠ 451 → c ≠ 557 → c ≠ 558 → J c = I c
theorem rH_rfl {a : Nat} : rH a I I := fun _ _ _ _ _ _ => rfl
theorem rH_trans {a : Nat} {J K : zI} (h : rH a I J) (h2 : rH a J K) : rH a I K := fun c q1 q2 q3 q4 q5 => (h2 c q1 q2 q3 q4 q5).trans (h c q1 q2 q3 q4 q5)
theorem rH_rF {a : Nat} {J : zI} (h : rF I J) : rH a I J := fun c _ q2 q3 q4 q5 => h c q2 q3 q4 q5
theorem rH_on {a : Nat} {J : zI} (h : fOn a I J) : rH a I J := fun c q1 _ _ _ _ => h c q1
theorem rB_rH {a : Nat} {J : zI} {b : zWo} (h : rB I b) (haa : a = 533 ∨ a = 534 ∨ a = 535) (hf : rH a I J) : rB J b := rB_of h (by rw [hf 74 (by omega) (by decide) (by decide) (by decide) (by decide)]) (fun c hc => hf c (by omega) (by omega) (by omega) (by omega) (by omega))
def unJ (b : zWo) (R : rwT) (n : Nat) : Nat := cB (fun i => !tin R n (bpn b n i)) (bpc b n)
theorem unJ_0 {b : zWo} {R : rwT} {n : Nat} (h : unJ b R n = 0) : jnd R (bpc b) (bpn b) n = true := by
  unfold unJ at h
  unfold jnd
  have : ∀ k, cB (fun i => !tin R n (bpn b n i)) k = 0 → allB (fun i => tin R n (bpn b n i)) k = true := by
    intro k
    induction k with
    | zero => intro _; rfl
    | succ k ih =>
      intro h
      simp only [cB] at h
      simp only [allB]
      rw [ih (by omega)]
      cases e : tin R n (bpn b n k) with
      | true => rfl
      | false => simp [e] at h
  exact this _ h
theorem unJ_lt {b : zWo} {R R' : rwT} {n i : Nat} (hi : i < bpc b n) (h1 : tin R n (bpn b n i) = false) (h2 : tin R' n (bpn b n i) = true) (h : ∀ i, i < bpc b n → tin R n (bpn b n i) = true → tin R' n (bpn b n i) = true) : unJ b R' n < unJ b R n := by
  refine cB_lt hi ?_ ?_ (fun k hk hk2 => ?_)
  · simp [h2]
  · simp [h1]
  · cases e : tin R n (bpn b n k) with
    | true => simp [h k hk e] at hk2
    | false => rfl
set_option maxHeartbeats 1000000 in
theorem m_grows (hl : l.stackTraces = false) (hd : 7 ≤ d) (hs : zSt g) {b : zWo} {R : rwT} (hB : rB I b) {a n : Nat} (ha : zAr g a 519) (haa : a = 533 ∨ a = 534 ∨ a = 535) (hR : rRow I a b R) (hok : okR b R) (hn : n < bN b) (hroot : tin R n (bpn b n 0) = true) : zEv l Xi mX13_grows d [.ref 74, .ref a, .int (nI n)] I g (fun J => rH a I J ∧ rRow J a b (growM b n 4 R)) := by
  refine zC_of hl rfl rfl rfl (Nat.le_of_ble_eq_true rfl) (zav_r (zSt_ob hs 74 13 rfl).1 (zav_r ha.1 (zav_i zav_0))) ?_
  have hb := hB.1
  have hN6 := hb.2.2.2.2.1
  have h4 := hb.2.2.2.2.2.1 n (by omega)
  have outer : ∀ k (R : rwT) (J : zI), unJ b R n ≤ k → okR b R → tin R n (bpn b n 0) = true → rH a I J → rRow J a b R → zJ l Xi mX13_grows d 0 0 0 [some (.ref 74), some (.ref a), some (.int (nI n)), none, none] [] (J, g) (fun r' h' => r' = .inl none ∧ ∃ I', h' = (I', g) ∧ rH a I I' ∧ rRow I' a b (growM b n k R)) := by
    intro k
    induction k with
    | zero =>
      intro R J hu hok hroot hJ hR
      have hBJ := rB_rH hB haa hJ
      have hj : jnd R (bpc b) (bpn b) n = true := unJ_0 (by omega)
      refine zJ_aload_n dX13_grows_0 rfl ?_
      refine zJ_aload_n dX13_grows_1 rfl ?_
      refine zJ_iload_n dX13_grows_2 rfl ?_
      refine zP_callVi [_, _] _ lv_X13_312 (m_isJoined (d := d - 1) hl (by omega) hs hBJ ha hR hn) (zSt_ob hs 74 13 rfl) rfl (by omega) (Nat.le_of_ble_eq_true rfl) rfl dX13_grows_3 ?_
      rw [hj]
      refine zJ_if_ne 67 dX13_grows_6 (by decide) (fun _ => ?_) (fun c6 => absurd c6 (by decide))
      refine zJ_vret rfl dX13_grows_67 ?_
      exact ⟨rfl, J, rfl, hJ, hR⟩
    | succ k ih =>
      intro R J hu hok hroot hJ hR
      have hBJ := rB_rH hB haa hJ
      cases hj : jnd R (bpc b) (bpn b) n with
      | true =>
        refine zJ_aload_n dX13_grows_0 rfl ?_
        refine zJ_aload_n dX13_grows_1 rfl ?_
        refine zJ_iload_n dX13_grows_2 rfl ?_
        refine zP_callVi [_, _] _ lv_X13_312 (m_isJoined (d := d - 1) hl (by omega) hs hBJ ha hR hn) (zSt_ob hs 74 13 rfl) rfl (by omega) (Nat.le_of_ble_eq_true rfl) rfl dX13_grows_3 ?_
        rw [hj]
        refine zJ_if_ne 67 dX13_grows_6 (by decide) (fun _ => ?_) (fun c6 => absurd c6 (by decide))
        refine zJ_vret rfl dX13_grows_67 ?_
        exact ⟨rfl, J, rfl, hJ, by rw [growM, if_pos hj]; exact hR⟩
      | false =>
        obtain ⟨D, hD⟩ : ∃ D, D = DM b R n := ⟨_, rfl⟩
        obtain ⟨c, hc⟩ : ∃ c, c = cstM b R n := ⟨_, rfl⟩
        have hTi : ∀ p, p < 64 → tin R n p = true → insM b p = true := fun p hp h => by obtain ⟨dep, hdp⟩ := hok.1 n (by omega); exact (hdp p hp h).1
        have hFP : FPd (tin R n) (wlR R) (adM b) c D := by rw [hc, hD]; exact DM_FP
        have hc1 : ∀ p, 1 ≤ c p := fun p => by rw [hc]; exact cst_in.1
        refine zJ_aload_n dX13_grows_0 rfl ?_
        refine zJ_aload_n dX13_grows_1 rfl ?_
        refine zJ_iload_n dX13_grows_2 rfl ?_
        refine zP_callVi [_, _] _ lv_X13_312 (m_isJoined (d := d - 1) hl (by omega) hs hBJ ha hR hn) (zSt_ob hs 74 13 rfl) rfl (by omega) (Nat.le_of_ble_eq_true rfl) rfl dX13_grows_3 ?_
        rw [hj]
        refine zJ_if_ne 67 dX13_grows_6 (by decide) (fun c6 => absurd rfl c6) (fun _ => ?_)
        refine zJ_aload_n dX13_grows_9 rfl ?_
        refine zJ_aload_n dX13_grows_10 rfl ?_
        refine zJ_iload_n dX13_grows_11 rfl ?_
        refine zP_ecallVv [_, _] _ lv_X13_316 (m_spreads (d := d - 1) hl (by omega) hs hBJ ha haa hR hok hn) (zSt_ob hs 74 13 rfl) rfl (by omega) (Nat.le_of_ble_eq_true rfl) rfl dX13_grows_12 (fun J1 h1 => ?_)
        obtain ⟨f1, s1, s2, s3⟩ := h1
        rw [← hD] at s1 s3
        rw [← hc] at s2
        have hJ1 : rH a I J1 := rH_trans hJ (rH_rF f1)
        have hBJ1 := rB_rH hB haa hJ1
        have hR1 : rRow J1 a b R := rRow_of hR (f1 a (by omega) (by omega) (by omega) (by omega))
        refine zJ_aload_n dX13_grows_15 rfl ?_
        refine zJ_aload_n dX13_grows_16 rfl ?_
        refine zJ_iload_n dX13_grows_17 rfl ?_
        refine zP_callVi [_, _] _ lv_X13_320 (m_nextPin (d := d - 1) hl (by omega) hs hBJ1 ha hR1 hn s1 s3) (zSt_ob hs 74 13 rfl) rfl (by omega) (Nat.le_of_ble_eq_true rfl) rfl dX13_grows_18 ?_
        refine zJ_istore_m 3 dX13_grows_21 rfl (Nat.le_of_ble_eq_true rfl) (by decide) ?_
        refine zJ_iload_n dX13_grows_22 rfl ?_
        refine zJ_iconst (v := -1) dX13_grows_23 rfl ?_
        refine zJ_icmp_ne 28 dX13_grows_24 (by decide) (fun c24 => ?_) (fun c24 => ?_)
        · skip
          obtain ⟨q, u, hq⟩ : ∃ q u, npM b (tin R n) D n (bpc b n) = some (q, u) := by
            cases z : npM b (tin R n) D n (bpc b n) with
            | none => exact absurd (by rw [z]; rfl) c24
            | some e => exact ⟨e.1, e.2, rfl⟩
          obtain ⟨nq1, nq2, ni, nq3, nq4⟩ := np_in hq
          have hq64 : q < 64 := by rw [← nq4]; exact (hb.2.2.2.2.2.2.1 n ni (by omega) (by omega)).1
          have inner : ∀ k2 p (Rk : rwT) (J2 : zI), 64 ≤ cB (tin Rk n) 64 + k2 → p < 64 → (∃ u, D p = some u) → (∀ q, q < 64 → tin R n q = true → tin Rk n q = true) → rRow J2 a b Rk → fOn a J1 J2 → (∀ (J3 : zI), rRow J3 a b (layM b D c n k2 (some p) Rk) → fOn a J1 J3 → zJ l Xi mX13_grows d 0 0 0 [some (.ref 74), some (.ref a), some (.int (nI n)), none, none] [] (J3, g) (fun r' h' => r' = .inl none ∧ ∃ I', h' = (I', g) ∧ rH a I I' ∧ rRow I' a b (growM b n (k + 1) R))) → zJ l Xi mX13_grows d 0 0 28 [some (.ref 74), some (.ref a), some (.int (nI n)), some (.int (nI p)), none] [] (J2, g) (fun r' h' => r' = .inl none ∧ ∃ I', h' = (I', g) ∧ rH a I I' ∧ rRow I' a b (growM b n (k + 1) R)) := by
            intro k2
            induction k2 with
            | zero =>
              intro p Rk J2 hcnt hp hDp hsub hR2 hf kk
              have ht : tin Rk n p = true := all_in (by omega) hp
              refine zJ_aload_n dX13_grows_28 rfl ?_
              refine zJ_iload_n dX13_grows_29 rfl ?_
              refine zJ_iload_n dX13_grows_30 rfl ?_
              refine zP_callSi [_, _, _] _ ls_X13_287 (k_isIn (d := d - 1) hl (by omega) ha (by omega) hp) rfl (by omega) (Nat.le_of_ble_eq_true rfl) rfl dX13_grows_31 ?_
              rw [r_tin hR2 (by omega) hp, ht]
              refine zJ_if_ne 64 dX13_grows_34 (by decide) (fun _ => ?_) (fun c34 => absurd c34 (by decide))
              refine zJ_goto 0 dX13_grows_64 (by decide) ?_
              exact zJ_back (zle_r (zle_r (zle_r (zle_n (zle_n zle_0))))) rfl (kk J2 hR2 hf)
            | succ k2 ih2 =>
              intro p Rk J2 hcnt hp hDp hsub hR2 hf kk
              cases ht : tin Rk n p with
              | true =>
                refine zJ_aload_n dX13_grows_28 rfl ?_
                refine zJ_iload_n dX13_grows_29 rfl ?_
                refine zJ_iload_n dX13_grows_30 rfl ?_
                refine zP_callSi [_, _, _] _ ls_X13_287 (k_isIn (d := d - 1) hl (by omega) ha (by omega) hp) rfl (by omega) (Nat.le_of_ble_eq_true rfl) rfl dX13_grows_31 ?_
                rw [r_tin hR2 (by omega) hp, ht]
                refine zJ_if_ne 64 dX13_grows_34 (by decide) (fun _ => ?_) (fun c34 => absurd c34 (by decide))
                refine zJ_goto 0 dX13_grows_64 (by decide) ?_
                exact zJ_back (zle_r (zle_r (zle_r (zle_n (zle_n zle_0))))) rfl (kk J2 (by rw [layM, if_pos ht]; exact hR2) hf)
              | false =>
                obtain ⟨u, hu⟩ := hDp
                have hT0 : tin R n p = false := by
                  cases z : tin R n p with
                  | false => rfl
                  | true => rw [hsub p hp z] at ht; cases ht
                obtain ⟨v, e, x, w1, w2, w3, w4, w5⟩ := wb_ex hb hFP hc1 hTi hp hT0 hu
                have hip := D_in hb hFP hc1 hTi u p hp hu
                have he64 := nbr_lt hb hp w3
                have hB2 : rB J2 b := rB_rH hBJ1 haa (rH_on hf)
                have hcu : c p ≤ u := by omega
                have g1 : ∀ q, q < 64 → J2 557 q = oI (D q) := fun q hq => by rw [hf 557 (by omega)]; exact s1 q hq
                have g2 : J2 558 p = nI (c p) := by rw [hf 558 (by omega)]; exact s2 p hp hip
                refine zJ_aload_n dX13_grows_28 rfl ?_
                refine zJ_iload_n dX13_grows_29 rfl ?_
                refine zJ_iload_n dX13_grows_30 rfl ?_
                refine zP_callSi [_, _, _] _ ls_X13_287 (k_isIn (d := d - 1) hl (by omega) ha (by omega) hp) rfl (by omega) (Nat.le_of_ble_eq_true rfl) rfl dX13_grows_31 ?_
                rw [r_tin hR2 (by omega) hp, ht]
                refine zJ_if_ne 64 dX13_grows_34 (by decide) (fun c34 => absurd rfl c34) (fun _ => ?_)
                refine zJ_aload_n dX13_grows_37 rfl ?_
                refine zJ_iload_n dX13_grows_38 rfl ?_
                refine zP_callVi [_] _ lv_X13_323 (m_parentBy (d := d - 1) hl (by omega) hs hB2 g1 g2 s3 hp hip hu hcu) (zSt_ob hs 74 13 rfl) rfl (by omega) (Nat.le_of_ble_eq_true rfl) rfl dX13_grows_39 ?_
                rw [w1]
                simp only [oI]
                refine zJ_istore dX13_grows_42 (Nat.le_of_ble_eq_true rfl) (by decide) ?_
                refine zJ_aload_n dX13_grows_44 rfl ?_
                refine zJ_iload_n dX13_grows_45 rfl ?_
                refine zJ_iload_n dX13_grows_46 rfl ?_
                refine zP_callSi [_, _] _ ls_X13_284 (k_treeOf (d := d - 1) hl (by omega)) rfl (by omega) (Nat.le_of_ble_eq_true rfl) rfl dX13_grows_47 ?_
                refine zJ_iload dX13_grows_50 rfl ?_
                refine zP_iast ha (by first | assumption | with_reducible exact vp_in_nI (by omega) (by omega) | (simp (disch := omega) only [nI_add, pk_mul, pk_sub, pk_div, pk_rem, nI_clamp]; with_reducible exact vp_in_nI (by omega) (by omega))) dX13_grows_52 ?_
                rw [nI_clamp (by omega)]
                have hB3 : rB (zup J2 a (n * 64 + p) (nI v)) b := rB_rH hB2 haa (fun c h1 _ _ _ _ => zup_row h1)
                refine zJ_aload_n dX13_grows_53 rfl ?_
                refine zJ_iload_n dX13_grows_54 rfl ?_
                refine zJ_iload dX13_grows_55 rfl ?_
                refine zP_callVi [_, _] _ lv_X13_309 (k_neighbour (d := d - 1) hl (by omega) hs hB3 hp hip w2) (zSt_ob hs 74 13 rfl) rfl (by omega) (Nat.le_of_ble_eq_true rfl) rfl dX13_grows_57 ?_
                rw [w3]
                simp only [oI]
                refine zJ_istore_m 3 dX13_grows_60 rfl (Nat.le_of_ble_eq_true rfl) (by decide) ?_
                refine zJ_goto 28 dX13_grows_61 (by decide) ?_
                have hnew : ∀ q, q < 64 → tin (upd Rk (n * 64 + p) (nI v)) n q = if q = p then true else tin Rk n q := fun q hq => by
                  unfold tin
                  by_cases z : q = p
                  · subst z; rw [upd_at, if_pos rfl]; exact decide_eq_true (nI_ne1 (by omega))
                  · rw [upd_ne (by omega), if_neg z]
                have hcB : cB (tin (upd Rk (n * 64 + p) (nI v)) n) 64 = cB (tin Rk n) 64 + 1 := by
                  rw [cB_congr (f' := fun q => if q = p then true else tin Rk n q) hnew]
                  exact cB_up1 hp (fun k hk => if_neg hk) ht (if_pos rfl)
                refine zJ_back (zle_r (zle_r (zle_r (zle_r (zle_n zle_0))))) rfl (ih2 e (upd Rk (n * 64 + p) (nI v)) _ (by omega) he64 ⟨x, w4⟩ (fun q hq h => ?_) (rRow_upd hR2 rfl (by omega)) (fun c hc => (zup_row hc).trans (hf c hc)) (fun J3 q1 q2 => kk J3 ?_ q2))
                · rw [hnew q hq]
                  split
                  · rfl
                  · exact hsub q hq h
                · rw [layM, if_neg (by rw [ht]; decide), w1]
                  simp only [w3]
                  exact q1
          simp only [hq, npI]
          refine zJ_back (zle_r (zle_r (zle_r (zle_r (zle_n zle_0))))) rfl (inner 64 q R J1 (by omega) hq64 ⟨u, nq2⟩ (fun _ _ h => h) hR1 (fun _ _ => rfl) (fun J3 r3 f3 => ?_))
          have hlay := lay_okT hb (n := n) (q := q) (by omega) hq64 (hok.1 n (by omega)) hroot ⟨u, by rw [← hD]; exact nq2⟩
          rw [← hD, ← hc] at hlay
          obtain ⟨L1, L2, L3, L4⟩ := hlay
          have hgrow : growM b n (k + 1) R = growM b n k (layM b D c n 64 (some q) R) := by
            rw [growM, if_neg (by rw [hj]; decide), ← hD, ← hc, hq]
          rw [hgrow]
          have hok2 : okR b (layM b D c n 64 (some q) R) := okR_net hb hok (by omega) L1 (fun p hp h => by
            rcases h with h | h
            · omega
            · have := hok.2.1 n (bpn b n 0) (by omega) (hb.2.2.2.2.2.2.1 n 0 (by omega) (by omega)).1 (Or.inr h)
              rw [this] at hroot; cases hroot) L4
          have hr0 : bpn b n 0 < 64 := (hb.2.2.2.2.2.2.1 n 0 (by omega) (by omega)).1
          have hlt : unJ b (layM b D c n 64 (some q) R) n < unJ b R n := unJ_lt nq3 (by rw [nq4]; exact nq1) (by rw [nq4]; exact L3) (fun i hi h => L2 _ (hb.2.2.2.2.2.2.1 n i (by omega) hi).1 h)
          exact ih _ J3 (by omega) hok2 (L2 _ hr0 hroot) (rH_trans hJ1 (rH_on f3)) r3
        · skip
          refine zJ_vret rfl dX13_grows_27 ?_
          have hz : npM b (tin R n) D n (bpc b n) = none := by
            cases z : npM b (tin R n) D n (bpc b n) with
            | none => rfl
            | some q =>
              obtain ⟨nq1, nq2, ni, nq3, nq4⟩ := np_in (q := q.1) (u := q.2) z
              rw [z] at c24
              exact absurd c24 (nI_ne1 (by rw [← nq4]; have := (hb.2.2.2.2.2.2.1 n ni (by omega) (by omega)).1; omega))
          refine ⟨rfl, J1, rfl, hJ1, ?_⟩
          rw [growM, if_neg (by rw [hj]; decide), ← hD, hz]
          exact hR1
  have hun : unJ b R n ≤ bpc b n := cB_le
  exact outer 4 R I (by omega) hok hroot rH_rfl hR
end ZRefF
