/-! ===== the reference: jam, ahead: what a row tells does not see its round ===== -/
section ZRefT
variable {l : Launch} {Xi : zXi} {d : Nat} {I : zI} {g : zG}
/-- alike but for the round -/
def eqD (R R' : rwT) : Prop := ∀ k, k ≠ 518 → R' k = R k
theorem eqD_tin {R R' : rwT} (h : eqD R R') {n p : Nat} (hn : n < 6) (hp : p < 64) : tin R' n p = tin R n p := by unfold tin; rw [h _ (by omega)]
theorem eqD_usn {R R' : rwT} (h : eqD R R') {p : Nat} (hp : p < 64) : usn R' p = usn R p := cB_congr (fun n hn => eqD_tin h hn hp)
theorem eqD_ov {b : zWo} {R R' : rwT} (h : eqD R R') {p : Nat} (hp : p < 64) : ovN b R' p = ovN b R p := by unfold ovN; rw [eqD_usn h hp]
theorem eqD_ovQ {b : zWo} {R R' : rwT} (h : eqD R R') {p : Nat} (hp : p < 64) : ovQ b R' p = ovQ b R p := by unfold ovQ; rw [eqD_ov h hp]
theorem eqD_over {b : zWo} {R R' : rwT} (h : eqD R R') : sOver b R' = sOver b R := cntF_congr (fun p hp => eqD_ovQ h hp)
theorem eqD_jnd {b : zWo} {R R' : rwT} (hb : bdOk b) (h : eqD R R') {n : Nat} (hn : n < 6) : jnd R' (bpc b) (bpn b) n = jnd R (bpc b) (bpn b) n := allB_congr (fun i hi => eqD_tin h hn (hb.2.2.2.2.2.2.1 n i hn hi).1)
theorem eqD_join {b : zWo} {R R' : rwT} (hb : bdOk b) (h : eqD R R') : sJoin b R' = sJoin b R := bitF_congr (fun n hn => eqD_jnd hb h (by have := hb.2.2.2.2.1; omega))
theorem eqD_done {b : zWo} {R R' : rwT} (hb : bdOk b) (h : eqD R R') : sDone b R' = sDone b R := by unfold sDone; rw [eqD_join hb h, eqD_over h]
theorem eqD_uses {R R' : rwT} (h : eqD R R') : sUses R' = sUses R := sumF_congr (fun p hp => by rw [eqD_usn h hp])
theorem eqD_his {R R' : rwT} (h : eqD R R') : sHis R' = sHis R := sumF_congr (fun p hp => h _ (by omega))
theorem it_go {b : zWo} {R : rwT} (hb : bdOk b) (hg : gnOk b) (hok : okR b R) : ∀ {k : Nat}, eqD (goA b R k) (itR b R k) ∧ (itR b R k = goA b R k ∨ sDone b (goA b R k) = true)
  | 0 => ⟨fun _ _ => rfl, Or.inl rfl⟩
  | k + 1 => by
    have hN := hb.2.2.2.2.1
    obtain ⟨h1, h2⟩ := it_go hb hg hok (k := k)
    cases hd : sDone b (goA b R k) with
    | true =>
      have e : goA b R (k + 1) = goA b R k := by rw [goA, if_pos hd]
      rw [e]
      refine ⟨?_, Or.inr hd⟩
      show eqD _ (rndM b (itR b R k))
      rw [done_rnd hN (okR_it hb hg hok) ((eqD_done hb h1).trans hd)]
      exact fun j hj => by rw [upd_ne hj]; exact h1 j hj
    | false =>
      rcases h2 with h2 | h2
      · have e : goA b R (k + 1) = itR b R (k + 1) := by rw [goA, if_neg (by rw [hd]; decide), ← h2]; rfl
        rw [e]
        exact ⟨fun _ _ => rfl, Or.inl rfl⟩
      · rw [hd] at h2; cases h2
/-! what is asked for is there -/
theorem nI_of_nn {x : Int32} (h : (0 : Int32) ≤ x) : x = nI x.toNatClampNeg ∧ x.toNatClampNeg < 2 ^ 31 := by
  have c1 := Int32.le_iff_toInt_le.mp h
  have d1 : (0 : Int32).toInt = 0 := rfl
  have hlt : x.toInt < 2 ^ 31 := Int32.toInt_lt x
  have e : (x.toNatClampNeg : Int) = x.toInt := Int.toNat_of_nonneg (by omega)
  refine ⟨Int32.toInt_inj.mp ?_, by omega⟩
  rw [nI_toInt (by omega), e]
theorem le_pred {x : Int32} {N : Nat} (hN : N < 1000) (hx : ¬ x < nI 0) : x ≤ nI N - nI 1 ↔ x < nI N := by
  have b1 : (0 : Int32) ≤ x := Int32.not_lt.mp hx
  have c1 := Int32.le_iff_toInt_le.mp b1
  have d1 : (0 : Int32).toInt = 0 := rfl
  by_cases z : N = 0
  · subst z
    refine ⟨fun h => ?_, fun h => absurd h hx⟩
    have c2 := Int32.le_iff_toInt_le.mp h
    have d2 : (nI 0 - nI 1).toInt = -1 := rfl
    omega
  · rw [pk_sub (by omega)]
    obtain ⟨k, hk⟩ : ∃ k, x = nI k ∧ k < 2 ^ 31 := ⟨x.toNatClampNeg, nI_of_nn b1⟩
    rw [hk.1]
    exact ⟨fun h => nI_lt (by have := (nI_leI (by omega) (by omega)).mp h; omega) (by omega), fun h => (nI_leI (by omega) (by omega)).mpr (Nat.le_of_not_lt (fun z2 => absurd h (nI_nlt (by omega) (by omega))))⟩
end ZRefT
