/-! ===== the reference: rounds gone ahead ===== -/
section ZRefS
variable {l : Launch} {Xi : zXi} {d : Nat} {I : zI} {g : zG}
theorem cnt_0 {f : Nat → Bool} {n : Nat} (hn : n ≤ 64) (h : cntF f n = 0) {k : Nat} (hk : k < n) : f k = false := by
  have e := (cnt_any hn).mp h
  cases z : f k with
  | false => rfl
  | true => rw [anyB_iff.mpr ⟨k, hk, z⟩] at e; cases e
theorem done_ov {b : zWo} {R : rwT} (h : sDone b R = true) {p : Nat} (hp : p < 64) : ovN b R p = 0 := by
  unfold sDone at h
  simp only [Bool.and_eq_true, decide_eq_true_eq] at h
  have := cnt_0 (Nat.le_refl _) h.2 hp
  have h2 := of_decide_eq_false this
  omega
theorem full_tab : ∀ m, m < 64 → ∀ N, N < 7 → bitF (fun k => Nat.testBit m k) N = nI 1 <<< (nI N &&& 31) - nI 1 → ∀ n, n < N → Nat.testBit m n = true := by decide +kernel
theorem done_jn {b : zWo} {R : rwT} (hN : bN b ≤ 6) (h : sDone b R = true) {n : Nat} (hn : n < bN b) : jnd R (bpc b) (bpn b) n = true := by
  unfold sDone at h
  simp only [Bool.and_eq_true, decide_eq_true_eq] at h
  obtain ⟨m, hm, e⟩ := mask6 (jnd R (bpc b) (bpn b))
  have h1 := h.1
  unfold sJoin at h1
  rw [bitF_congr (fun k hk => e k (by omega))] at h1
  rw [e n (by omega)]
  exact full_tab m hm (bN b) (by omega) h1 n hn
theorem done_sty {b : zWo} {R : rwT} (hN : bN b ≤ 6) (h : sDone b R = true) {n : Nat} (hn : n < bN b) : styM b R n = true := by
  have e : ovPl b R n = 0 := cB_none (fun p hp => by rw [decide_eq_false (by have := done_ov h hp; omega), Bool.and_false])
  unfold styM
  rw [done_jn hN h hn, decide_eq_true e]
  simp
theorem done_rndN {b : zWo} {R : rwT} (hN : bN b ≤ 6) (h : sDone b R = true) : ∀ {k : Nat}, k ≤ bN b → rndN b R k = R
  | 0, _ => rfl
  | k + 1, hk => by rw [rnd_step, done_rndN hN h (by omega), if_pos (done_sty hN h (by omega))]
theorem done_rnd {b : zWo} {R : rwT} (hN : bN b ≤ 6) (hok : okR b R) (h : sDone b R = true) : rndM b R = upd R 518 (R 518 + 1) := by
  unfold rndM
  rw [done_rndN hN h (Nat.le_refl _)]
  have e : hisM b R = R := by
    funext k
    unfold hisM
    split
    · next z =>
      obtain ⟨x, hx, ex⟩ := hok.2.2.2 (k - 384) (by omega)
      rw [show 384 + (k - 384) = k by omega] at ex
      rw [done_ov h (p := k - 384) (by omega)]
      show (if R k + nI 0 * bgn b < nI 9999 then R k + nI 0 * bgn b else nI 9999) = R k
      rw [show nI 0 * bgn b = 0 from Int32.zero_mul, Int32.add_zero]
      split
      · rfl
      · next z2 =>
        rw [ex] at z2 ⊢
        have : ¬ x < 9999 := fun z3 => z2 (nI_lt z3 (by omega))
        rw [show x = 9999 by omega]
    · rfl
  rw [e]
end ZRefS
