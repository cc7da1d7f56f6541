/-! ===== the reference: feed ===== -/
section ZRefAJ
variable {l : Launch} {Xi : zXi} {d : Nat} {I : zI} {g : zG}
theorem shr_mod {x sh : Int32} {k : Nat} (hs : (sh.toBitVec.smod 32).toNat = k) (hk : k = 24 ∨ k = 16 ∨ k = 8 ∨ k = 0) : (x >>> sh).toBitVec.toNat % 2 ^ 8 = x.toBitVec.toNat / 2 ^ k % 256 := by
  have h := pk_shr x sh k hs
  obtain ⟨y, hy⟩ : ∃ y, x >>> sh = y := ⟨_, rfl⟩
  rw [hy] at h ⊢
  have e1 : y.toInt = if 2 * y.toBitVec.toNat < 2 ^ 32 then (y.toBitVec.toNat : Int) else y.toBitVec.toNat - ((2 ^ 32 : Nat) : Int) := BitVec.toInt_eq_toNat_cond y.toBitVec
  have e2 : x.toInt = if 2 * x.toBitVec.toNat < 2 ^ 32 then (x.toBitVec.toNat : Int) else x.toBitVec.toNat - ((2 ^ 32 : Nat) : Int) := BitVec.toInt_eq_toNat_cond x.toBitVec
  rw [Int.shiftRight_eq_div_pow] at h
  have h1 := y.toBitVec.isLt
  have h2 := x.toBitVec.isLt
  rcases hk with rfl | rfl | rfl | rfl <;> (split at e1 <;> split at e2 <;> omega)
theorem byI_eq {x : Int32} {j : Nat} (hj : j < 4) : (x >>> ((nI 24 - nI (8 * j)) &&& 31)) &&& nI 255 = nI (byt x j) := by
  have ht : ∀ j, j < 4 → (((nI 24 - nI (8 * j)) &&& 31).toBitVec.smod 32).toNat = 24 - 8 * j := by decide
  rw [pk_and _ 8 (by decide), shr_mod (ht j hj) (by omega)]
  rfl
def fdX (a b c e f : Int32) (t : Nat) : Int32 := if t < 4 then a else if t < 8 then b else if t < 12 then c else if t < 16 then e else f
theorem feedB_eq {bs : Nat → Nat} {fed t : Nat} {a b c e f : Int32} (ht : t < 20) : feedB bs fed a b c e f (fed + t) = byt (fdX a b c e f t) (t % 4) := by
  unfold feedB apd fdX
  by_cases h1 : t < 4
  · rw [if_neg (by omega), if_neg (by omega), if_neg (by omega), if_neg (by omega), if_pos (by omega), if_pos h1, show fed + t - fed = t % 4 by omega]
  rw [if_neg h1]
  by_cases h2 : t < 8
  · rw [if_neg (by omega), if_neg (by omega), if_neg (by omega), if_pos (by omega), if_pos h2, show fed + t - (fed + 4) = t % 4 by omega]
  rw [if_neg h2]
  by_cases h3 : t < 12
  · rw [if_neg (by omega), if_neg (by omega), if_pos (by omega), if_pos h3, show fed + t - (fed + 8) = t % 4 by omega]
  rw [if_neg h3]
  by_cases h4 : t < 16
  · rw [if_neg (by omega), if_pos (by omega), if_pos h4, show fed + t - (fed + 12) = t % 4 by omega]
  rw [if_neg h4, if_pos (by omega), show fed + t - (fed + 16) = t % 4 by omega]
theorem feedB_old {bs : Nat → Nat} {fed k : Nat} {a b c e f : Int32} (hk : k < fed) : feedB bs fed a b c e f k = bs k := by
  unfold feedB apd
  rw [if_neg (by omega), if_neg (by omega), if_neg (by omega), if_neg (by omega), if_neg (by omega)]
theorem byt_lt {x : Int32} {j : Nat} : byt x j < 256 := Nat.mod_lt _ (by decide)
theorem m_feed (hl : l.stackTraces = false) (hd : 12 ≤ d) (hs : zSt g) {S : sT} (hI : rI I S) {a b c e f : Int32} : zEi l Xi mX13_feed d [.ref 74, .int a, .int b, .int c, .int e, .int f] I g (fun v J => v = feedV S ∧ J 74 0 = nI 0 ∧ rO I J ∧ rI J (feedS S a b c e f)) := by
  refine zC_of hl rfl rfl rfl (Nat.le_of_ble_eq_true rfl) (zav_r (zSt_ob hs 74 13 rfl).1 (zav_i (zav_i (zav_i (zav_i (zav_i zav_0)))))) ?_
  have hI0 := hI
  obtain ⟨h1, h2, h3, h4, h5, h6, h7, h8, h9, h10⟩ := hI
  obtain ⟨fed, hfed⟩ : ∃ n, S.1.1 = n := ⟨_, rfl⟩
  rw [hfed] at h1
  obtain ⟨t1, t2, t3⟩ := h1
  have tt : (zup I 74 0 (nI 0)) 74 1 = nI fed := by rw [thr_ne (by decide)]; exact t1
  unfold feedV feedS
  rw [hfed]
  by_cases hz : 600 < fed + 20
  · rw [if_pos hz, if_pos hz]
    refine zJ_aload_n dX13_feed_0 rfl ?_
    refine zJ_iconst (v := nI 0) dX13_feed_1 rfl ?_
    refine zP_puti lf_X13_107 (zSt_ob hs 74 13 rfl) rfl dX13_feed_2 ?_
    refine zJ_aload_n dX13_feed_5 rfl ?_
    refine zP_geti lf_X13_110 (zSt_ob hs 74 13 rfl) rfl dX13_feed_6 ?_
    rw [tt]
    refine zJ_bipush (v := nI 20) dX13_feed_9 rfl ?_
    refine zJ_iadd dX13_feed_11 ?_
    rw [nI_add]
    refine zJ_sipush (v := nI 600) dX13_feed_12 rfl ?_
    refine zJ_icmp_le 20 dX13_feed_15 (by decide) (fun c15 => absurd c15 (fun z => absurd ((nI_leI (by omega) (by omega)).mp z) (by omega))) (fun _ => ?_)
    refine zJ_iconst (v := -1) dX13_feed_18 rfl ?_
    refine zJ_iret rfl dX13_feed_19 ?_
    exact ⟨_, _, rfl, rfl, rfl, thr_at, rO_rQ rQ_thr, rI_rQ hI0 rQ_thr⟩
  rw [if_neg hz, if_neg hz]
  have loop : ∀ m t (J : zI), t + m = 20 → (∀ q, q ≠ 74 → q ≠ 75 → J q = I q) → (∀ k, k ≠ 0 → k ≠ 1 → J 74 k = I 74 k) → J 74 0 = nI 0 → J 74 1 = nI (fed + t) → (∀ k, k < fed + t → J 75 k = nI (feedB S.1.2.1 fed a b c e f k)) → zJ l Xi mX13_feed d 0 0 23 [some (.ref 74), some (.int a), some (.int b), some (.int c), some (.int e), some (.int f), some (.int (nI t)), none] [] (J, g) (fun r' h' => ∃ v I', r' = .inl (some (.int v)) ∧ h' = (I', g) ∧ v = nI (fed + 20) ∧ I' 74 0 = nI 0 ∧ rO I I' ∧ rI I' ((fed + 20, feedB S.1.2.1 fed a b c e f, S.1.2.2), S.2)) := by
    intro m
    induction m with
    | zero =>
      intro t J ht e1 e2 e3 e4 e5
      obtain rfl : t = 20 := by omega
      refine zJ_iload dX13_feed_23 rfl ?_
      refine zJ_bipush (v := nI 20) dX13_feed_25 rfl ?_
      refine zJ_icmp_ge 120 dX13_feed_27 (by decide) (fun _ => ?_) (fun c27 => absurd (nI_le (by omega) (by omega)) c27)
      refine zJ_aload_n dX13_feed_120 rfl ?_
      refine zP_geti lf_X13_110 (zSt_ob hs 74 13 rfl) rfl dX13_feed_121 ?_
      refine zJ_iret rfl dX13_feed_124 ?_
      refine ⟨_, J, rfl, rfl, e4, e3, fun q hq => e1 q (by omega) (by omega), ⟨e4, by show fed + 20 ≤ 600; omega, fun k hk => ⟨e5 k hk, ?_⟩⟩, by rw [e2 3 (by decide) (by decide)]; exact h2, rB_of h3 (e2 20 (by decide) (by decide)) (fun q hq => e1 q (by omega) (by omega)), rRow_of h4 (e1 533 (by decide) (by decide)), rLn_of h5 (e2 35 (by decide) (by decide)) (fun q q1 q2 => e1 q (by omega) (by omega)), rWs_of h6 (e2 36 (by decide) (by decide)) (fun q q1 q2 => e1 q (by omega) (by omega)), rIm_of h7 (e2 38 (by decide) (by decide)) (fun q q1 q2 => e1 q (by omega) (by omega)), by rw [e2 37 (by decide) (by decide)]; exact h8, by rw [e1 76 (by decide) (by decide)]; exact h9, by rw [e1 76 (by decide) (by decide)]; exact h10⟩
      show feedB S.1.2.1 fed a b c e f k < 256
      have hk2 : k < fed + 20 := hk
      by_cases z : k < fed
      · rw [feedB_old z]; exact (t3 k z).2
      · rw [show k = fed + (k - fed) by omega, feedB_eq (by omega)]; exact byt_lt
    | succ m ih =>
      intro t J ht e1 e2 e3 e4 e5
      have fin : ∀ x : Int32, x = fdX a b c e f t → zJ l Xi mX13_feed d 0 0 78 [some (.ref 74), some (.int a), some (.int b), some (.int c), some (.int e), some (.int f), some (.int (nI t)), some (.int x)] [] (J, g) (fun r' h' => ∃ v I', r' = .inl (some (.int v)) ∧ h' = (I', g) ∧ v = nI (fed + 20) ∧ I' 74 0 = nI 0 ∧ rO I I' ∧ rI I' ((fed + 20, feedB S.1.2.1 fed a b c e f, S.1.2.2), S.2)) := by
        intro x hx
        refine zJ_aload_n dX13_feed_78 rfl ?_
        refine zP_getr lf_X13_13 (zSt_ob hs 74 13 rfl) rfl (zSt_rf hs 74 9 75 rfl) dX13_feed_79 ?_
        refine zJ_aload_n dX13_feed_82 rfl ?_
        refine zP_geti lf_X13_110 (zSt_ob hs 74 13 rfl) rfl dX13_feed_83 ?_
        rw [e4]
        refine zJ_iload dX13_feed_86 rfl ?_
        refine zJ_bipush (v := nI 24) dX13_feed_88 rfl ?_
        refine zJ_bipush (v := nI 8) dX13_feed_90 rfl ?_
        refine zJ_iload dX13_feed_92 rfl ?_
        refine zJ_iconst (v := nI 4) dX13_feed_94 rfl ?_
        refine zJ_irem dX13_feed_95 (by decide) ?_
        rw [pk_rem (by omega) (by omega) (by omega)]
        refine zJ_imul dX13_feed_96 ?_
        rw [pk_mul]
        refine zJ_isub dX13_feed_97 ?_
        refine zJ_ishr dX13_feed_98 ?_
        refine zJ_sipush (v := nI 255) dX13_feed_99 rfl ?_
        refine zJ_iand dX13_feed_102 ?_
        rw [byI_eq (Nat.mod_lt _ (by decide))]
        refine zP_iast (zSt_ar hs 75 600 rfl) (by first | assumption | with_reducible exact vp_in_nI (by omega) (by omega) | (simp (disch := omega) only [nI_add, pk_mul, pk_sub, pk_div, pk_rem, nI_clamp]; with_reducible exact vp_in_nI (by omega) (by omega))) dX13_feed_103 ?_
        rw [nI_clamp (by omega)]
        refine zJ_aload_n dX13_feed_104 rfl ?_
        refine zJ_dup dX13_feed_105 rfl ?_
        refine zP_geti lf_X13_110 (zSt_ob hs 74 13 rfl) rfl dX13_feed_106 ?_
        rw [zup_row (by decide), e4]
        refine zJ_iconst (v := nI 1) dX13_feed_109 rfl ?_
        refine zJ_iadd dX13_feed_110 ?_
        rw [nI_add]
        refine zP_puti lf_X13_110 (zSt_ob hs 74 13 rfl) rfl dX13_feed_111 ?_
        refine zJ_iinc1 dX13_feed_114 rfl (by decide) ?_
        refine zJ_goto 23 dX13_feed_117 (by decide) ?_
        refine zJ_back (zle_r (zle_r (zle_r (zle_r (zle_r (zle_r (zle_r (zle_n zle_0)))))))) rfl (ih (t + 1) _ (by omega) (fun q q1 q2 => by rw [zup_row q1, zup_row q2]; exact e1 q q1 q2) (fun k q1 q2 => by rw [zup_same, upd_ne q2, zup_row (by decide)]; exact e2 k q1 q2) (by rw [zup_same, upd_ne (by decide), zup_row (by decide)]; exact e3) (by rw [zup_same, upd_at]; rfl) (fun k hk => ?_))
        rw [zup_row (by decide), zup_same]
        by_cases z : k = fed + t
        · rw [z, upd_at, feedB_eq (by omega), hx]
        · rw [upd_ne z]; exact e5 k (by omega)
      refine zJ_iload dX13_feed_23 rfl ?_
      refine zJ_bipush (v := nI 20) dX13_feed_25 rfl ?_
      refine zJ_icmp_ge 120 dX13_feed_27 (by decide) (fun c27 => absurd c27 (nI_ge (by omega) (by omega))) (fun _ => ?_)
      refine zJ_iload dX13_feed_30 rfl ?_
      refine zJ_iconst (v := nI 4) dX13_feed_32 rfl ?_
      refine zJ_icmp_ge 40 dX13_feed_33 (by decide) (fun c33 => ?_) (fun c33 => ?_)
      · skip
        refine zJ_iload dX13_feed_40 rfl ?_
        refine zJ_bipush (v := nI 8) dX13_feed_42 rfl ?_
        refine zJ_icmp_ge 51 dX13_feed_44 (by decide) (fun c44 => ?_) (fun c44 => ?_)
        · skip
          refine zJ_iload dX13_feed_51 rfl ?_
          refine zJ_bipush (v := nI 12) dX13_feed_53 rfl ?_
          refine zJ_icmp_ge 62 dX13_feed_55 (by decide) (fun c55 => ?_) (fun c55 => ?_)
          · skip
            refine zJ_iload dX13_feed_62 rfl ?_
            refine zJ_bipush (v := nI 16) dX13_feed_64 rfl ?_
            refine zJ_icmp_ge 74 dX13_feed_66 (by decide) (fun c66 => ?_) (fun c66 => ?_)
            · skip
              refine zJ_iload dX13_feed_74 rfl ?_
              refine zJ_istore dX13_feed_76 (Nat.le_of_ble_eq_true rfl) (by decide) ?_
              have q1 : ¬ t < 4 := fun z => absurd c33 (nI_ge z (by omega))
              have q2 : ¬ t < 8 := fun z => absurd c44 (nI_ge z (by omega))
              have q3 : ¬ t < 12 := fun z => absurd c55 (nI_ge z (by omega))
              have q4 : ¬ t < 16 := fun z => absurd c66 (nI_ge z (by omega))
              exact fin _ (by unfold fdX; rw [if_neg q1, if_neg q2, if_neg q3, if_neg q4])
            · skip
              refine zJ_iload dX13_feed_69 rfl ?_
              refine zJ_goto 76 dX13_feed_71 (by decide) ?_
              refine zJ_istore dX13_feed_76 (Nat.le_of_ble_eq_true rfl) (by decide) ?_
              have q1 : ¬ t < 4 := fun z => absurd c33 (nI_ge z (by omega))
              have q2 : ¬ t < 8 := fun z => absurd c44 (nI_ge z (by omega))
              have q3 : ¬ t < 12 := fun z => absurd c55 (nI_ge z (by omega))
              have q4 : t < 16 := Nat.lt_of_not_le (fun z => c66 (nI_le z (by omega)))
              exact fin _ (by unfold fdX; rw [if_neg q1, if_neg q2, if_neg q3, if_pos q4])
          · skip
            refine zJ_iload_n dX13_feed_58 rfl ?_
            refine zJ_goto 76 dX13_feed_59 (by decide) ?_
            refine zJ_istore dX13_feed_76 (Nat.le_of_ble_eq_true rfl) (by decide) ?_
            have q1 : ¬ t < 4 := fun z => absurd c33 (nI_ge z (by omega))
            have q2 : ¬ t < 8 := fun z => absurd c44 (nI_ge z (by omega))
            have q3 : t < 12 := Nat.lt_of_not_le (fun z => c55 (nI_le z (by omega)))
            exact fin _ (by unfold fdX; rw [if_neg q1, if_neg q2, if_pos q3])
        · skip
          refine zJ_iload_n dX13_feed_47 rfl ?_
          refine zJ_goto 76 dX13_feed_48 (by decide) ?_
          refine zJ_istore dX13_feed_76 (Nat.le_of_ble_eq_true rfl) (by decide) ?_
          have q1 : ¬ t < 4 := fun z => absurd c33 (nI_ge z (by omega))
          have q2 : t < 8 := Nat.lt_of_not_le (fun z => c44 (nI_le z (by omega)))
          exact fin _ (by unfold fdX; rw [if_neg q1, if_pos q2])
      · skip
        refine zJ_iload_n dX13_feed_36 rfl ?_
        refine zJ_goto 76 dX13_feed_37 (by decide) ?_
        refine zJ_istore dX13_feed_76 (Nat.le_of_ble_eq_true rfl) (by decide) ?_
        have q1 : t < 4 := Nat.lt_of_not_le (fun z => c33 (nI_le z (by omega)))
        exact fin _ (by unfold fdX; rw [if_pos q1])
  refine zJ_aload_n dX13_feed_0 rfl ?_
  refine zJ_iconst (v := nI 0) dX13_feed_1 rfl ?_
  refine zP_puti lf_X13_107 (zSt_ob hs 74 13 rfl) rfl dX13_feed_2 ?_
  refine zJ_aload_n dX13_feed_5 rfl ?_
  refine zP_geti lf_X13_110 (zSt_ob hs 74 13 rfl) rfl dX13_feed_6 ?_
  rw [tt]
  refine zJ_bipush (v := nI 20) dX13_feed_9 rfl ?_
  refine zJ_iadd dX13_feed_11 ?_
  rw [nI_add]
  refine zJ_sipush (v := nI 600) dX13_feed_12 rfl ?_
  refine zJ_icmp_le 20 dX13_feed_15 (by decide) (fun _ => ?_) (fun c15 => absurd ((nI_leI (by omega) (by omega)).mpr (by omega)) c15)
  refine zJ_iconst (v := nI 0) dX13_feed_20 rfl ?_
  refine zJ_istore dX13_feed_21 (Nat.le_of_ble_eq_true rfl) (by decide) ?_
  exact zJ_back (zle_r (zle_r (zle_r (zle_r (zle_r (zle_r (zle_r (zle_n zle_0)))))))) rfl (loop 20 0 _ (by omega) (fun q q1 _ => zup_row q1) (fun k q1 _ => thr_ne q1) thr_at tt (fun k hk => by rw [zup_row (by decide), feedB_old (fed := fed) (by omega)]; exact (t3 k (by omega)).1))
end ZRefAJ
