/-! ===== the reference: rounds gone ahead ===== -/
section ZRefS
variable {l : Launch} {Xi : zXi} {d : Nat} {I : zI} {g : zG}
theorem cnt_0 {f : Nat → Bool} {n : Nat} (hn : n ≤ 64) (h : cntF f n = 0) {k : Nat} (hk : k < n) : f k = false := by
  have e := (cnt_any hn).mp h
  cases z : f k with
  | false => rfl
  | true => rw [anyB_iff.mpr ⟨k, hk, z⟩] at e; cases e
theorem done_ov {b : zWo} {R : rwT} (h : sDone b R = true) {p : Nat} (hp : p < 64) : ovN b R p = 0 := by
  unfold sDone at h
  simp only [Bool.and_eq_true, decide_eq_true_eq] at h
  have := cnt_0 (Nat.le_refl _) h.2 hp
  have h2 := of_decide_eq_false this
  omega
theorem full_tab : ∀ m, m < 64 → ∀ N, N < 7 → bitF (fun k => Nat.testBit m k) N = nI 1 <<< (nI N &&& 31) - nI 1 → ∀ n, n < N → Nat.testBit m n = true := by decide +kernel
theorem done_jn {b : zWo} {R : rwT} (hN : bN b ≤ 6) (h : sDone b R = true) {n : Nat} (hn : n < bN b) : jnd R (bpc b) (bpn b) n = true := by
  unfold sDone at h
  simp only [Bool.and_eq_true, decide_eq_true_eq] at h
  obtain ⟨m, hm, e⟩ := mask6 (jnd R (bpc b) (bpn b))
  have h1 := h.1
  unfold sJoin at h1
  rw [bitF_congr (fun k hk => e k (by omega))] at h1
  rw [e n (by omega)]
  exact full_tab m hm (bN b) (by omega) h1 n hn
theorem done_sty {b : zWo} {R : rwT} (hN : bN b ≤ 6) (h : sDone b R = true) {n : Nat} (hn : n < bN b) : styM b R n = true := by
  have e : ovPl b R n = 0 := cB_none (fun p hp => by rw [decide_eq_false (by have := done_ov h hp; omega), Bool.and_false])
  unfold styM
  rw [done_jn hN h hn, decide_eq_true e]
  simp
theorem done_rndN {b : zWo} {R : rwT} (hN : bN b ≤ 6) (h : sDone b R = true) : ∀ {k : Nat}, k ≤ bN b → rndN b R k = R
  | 0, _ => rfl
  | k + 1, hk => by rw [rnd_step, done_rndN hN h (by omega), if_pos (done_sty hN h (by omega))]
theorem done_rnd {b : zWo} {R : rwT} (hN : bN b ≤ 6) (hok : okR b R) (h : sDone b R = true) : rndM b R = upd R 518 (R 518 + 1) := by
  unfold rndM
  rw [done_rndN hN h (Nat.le_refl _)]
  have e : hisM b R = R := by
    funext k
    unfold hisM
    split
    · next z =>
      obtain ⟨x, hx, ex⟩ := hok.2.2.2 (k - 384) (by omega)
      rw [show 384 + (k - 384) = k by omega] at ex
      rw [done_ov h (p := k - 384) (by omega)]
      show (if R k + nI 0 * bgn b < nI 9999 then R k + nI 0 * bgn b else nI 9999) = R k
      rw [show nI 0 * bgn b = 0 from Int32.zero_mul, Int32.add_zero]
      split
      · rfl
      · next z2 =>
        rw [ex] at z2 ⊢
        have : ¬ x < 9999 := fun z3 => z2 (nI_lt z3 (by omega))
        rw [show x = 9999 by omega]
    · rfl
  rw [e]
noncomputable def itR (b : zWo) (R : rwT) : Nat → rwT
  | 0 => R
  | k + 1 => rndM b (itR b R k)
theorem okR_it {b : zWo} {R : rwT} (hb : bdOk b) (hg : gnOk b) (hok : okR b R) : ∀ {k : Nat}, okR b (itR b R k)
  | 0 => hok
  | k + 1 => okR_rnd hb hg (okR_it hb hg hok)
theorem m_goesOn (hl : l.stackTraces = false) (hd : 10 ≤ d) (hs : zSt g) {b : zWo} {R : rwT} (hB : rB I b) (hR : rRow I 533 b R) (hok : okR b R) (hg : gnOk b) {w : Nat} (hm : w ≤ 40) : zEv l Xi mX13_goesOn d [.ref 74, .int (nI w)] I g (fun J => rS 534 I J ∧ rRow J 534 b (itR b R w)) := by
  refine zC_of hl rfl rfl rfl (Nat.le_of_ble_eq_true rfl) (zav_r (zSt_ob hs 74 13 rfl).1 (zav_i zav_0)) ?_
  have hb := hB.1
  have hN6 := hb.2.2.2.2.1
  have ha := zSt_ar hs 534 519 rfl
  have loop : ∀ m p, p + m = w → ∀ (J : zI), (rS 534 I J ∧ rRow J 534 b (itR b R p)) → zJ l Xi mX13_goesOn d 0 0 13 [some (.ref 74), some (.int (nI w)), some (.int (nI p))] [] (J, g) (fun r' h' => r' = .inl none ∧ ∃ I', h' = (I', g) ∧ rS 534 I I' ∧ rRow I' 534 b (itR b R w)) := by
    intro m
    induction m with
    | zero =>
      intro p hp J hI
      obtain rfl : p = w := by omega
      refine zJ_iload_n dX13_goesOn_13 rfl ?_
      refine zJ_iload_n dX13_goesOn_14 rfl ?_
      refine zJ_icmp_ge 32 dX13_goesOn_15 (by decide) (fun _ => ?_) (fun c15 => absurd (nI_le (by omega) (by omega)) c15)
      refine zJ_vret rfl dX13_goesOn_32 ?_
      exact ⟨rfl, J, rfl, hI.1, hI.2⟩
    | succ m ih =>
      intro p hp J hI
      refine zJ_iload_n dX13_goesOn_13 rfl ?_
      refine zJ_iload_n dX13_goesOn_14 rfl ?_
      refine zJ_icmp_ge 32 dX13_goesOn_15 (by decide) (fun c15 => absurd c15 (nI_ge (by omega) (by omega))) (fun _ => ?_)
      refine zJ_aload_n dX13_goesOn_18 rfl ?_
      refine zJ_aload_n dX13_goesOn_19 rfl ?_
      refine zP_getr lf_X13_73 (zSt_ob hs 74 13 rfl) rfl (zSt_rf hs 74 31 534 rfl) dX13_goesOn_20 ?_
      refine zP_ecallVv [_] _ lv_X13_347 (m_roundEnds (d := d - 1) hl (by omega) hs (rB_rS hB (by omega) hI.1) ha (by omega) hI.2 (okR_it hb hg hok) hg) (zSt_ob hs 74 13 rfl) rfl (by omega) (Nat.le_of_ble_eq_true rfl) rfl dX13_goesOn_23 (fun K hK => ?_)
      refine zJ_iinc1 dX13_goesOn_26 rfl (by decide) ?_
      refine zJ_goto 13 dX13_goesOn_29 (by decide) ?_
      exact zJ_back (zle_r (zle_r (zle_r zle_0))) rfl (ih (p + 1) (by omega) K ⟨rS_trans hI.1 hK.1, hK.2⟩)
  refine zJ_aload_n dX13_goesOn_0 rfl ?_
  refine zP_getr lf_X13_70 (zSt_ob hs 74 13 rfl) rfl (zSt_rf hs 74 30 533 rfl) dX13_goesOn_1 ?_
  refine zJ_aload_n dX13_goesOn_4 rfl ?_
  refine zP_getr lf_X13_73 (zSt_ob hs 74 13 rfl) rfl (zSt_rf hs 74 31 534 rfl) dX13_goesOn_5 ?_
  refine zP_callSv [_, _] _ ls_X13_379 (k_copies (d := d - 1) hl (by omega) (zSt_ar hs 533 519 rfl) ha (by decide)) rfl (by omega) (Nat.le_of_ble_eq_true rfl) rfl dX13_goesOn_8 ?_
  refine zJ_iconst (v := nI 0) dX13_goesOn_11 rfl ?_
  refine zJ_istore_m 2 dX13_goesOn_12 rfl (Nat.le_of_ble_eq_true rfl) (by decide) ?_
  exact loop w 0 (by omega) _ ⟨fun c q1 _ _ _ _ _ => va_up_row q1, copy_row hN6 (by decide) hR⟩
end ZRefS
