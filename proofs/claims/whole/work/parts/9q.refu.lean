/-! ===== the reference: parent, cost ===== -/
section ZRefU
variable {l : Launch} {Xi : zXi} {d : Nat} {I : zI} {g : zG}
def qNet (b : zWo) (x : Int32) : Bool := decide (¬ x < 0 ∧ x < nI (bN b))
theorem m_isNet (hl : l.stackTraces = false) (hd : 2 ≤ d) (hs : zSt g) {b : zWo} (hB : rB I b) {x : Int32} : zD l Xi mX13_isNet d [.ref 74, .int x] I g (some (.int (if qNet b x then 1 else 0))) I := by
  refine zC_of hl rfl rfl rfl (Nat.le_of_ble_eq_true rfl) (zav_r (zSt_ob hs 74 13 rfl).1 (zav_i zav_0)) ?_
  have hN6 := hB.1.2.2.2.2.1
  have hN : I 78 (nI 2).toNatClampNeg = nI (bN b) := by rw [nI_clamp (by omega)]; exact hB.2.1.2.2.1
  refine zJ_iload_n dX13_isNet_0 rfl ?_
  refine zJ_iconst (v := nI 0) dX13_isNet_1 rfl ?_
  refine zJ_aload_n dX13_isNet_2 rfl ?_
  refine zP_getr lf_X13_23 (zSt_ob hs 74 13 rfl) rfl (zSt_rf hs 74 12 78 rfl) dX13_isNet_3 ?_
  refine zJ_iconst (v := nI 2) dX13_isNet_6 rfl ?_
  refine zP_iald (zSt_ar hs 78 4 rfl) (by first | assumption | with_reducible exact vp_in_nI (by omega) (by omega) | (simp (disch := omega) only [nI_add, pk_mul, pk_sub, pk_div, pk_rem, nI_clamp]; with_reducible exact vp_in_nI (by omega) (by omega))) dX13_isNet_7 ?_
  rw [hN]
  refine zJ_iconst (v := nI 1) dX13_isNet_8 rfl ?_
  refine zJ_isub dX13_isNet_9 ?_
  refine zP_callSi [_, _, _] _ ls_X13_141 (k_in (d := d - 1) hl (by omega)) rfl (by omega) (Nat.le_of_ble_eq_true rfl) rfl dX13_isNet_10 ?_
  refine zJ_zret rfl zbr dX13_isNet_13 ?_
  refine ⟨?_, rfl⟩
  have e : decide (¬ x < nI 0 ∧ x ≤ nI (bN b) - nI 1) = qNet b x := decide_eq_decide.mpr ⟨fun h => ⟨h.1, (le_pred (by omega) h.1).mp h.2⟩, fun h => ⟨h.1, (le_pred (by omega) h.1).mpr h.2⟩⟩
  rw [e]
/-- a refused call is counted: no such, or wrong -/
def rfU (S : sT) (k : Bool) : sT := (S.1, S.2.1, S.2.2.1, S.2.2.2.1, S.2.2.2.2.1, S.2.2.2.2.2.1, (S.2.2.2.2.2.2.1, if k then S.2.2.2.2.2.2.2.1 + 1 else S.2.2.2.2.2.2.2.1, if k then S.2.2.2.2.2.2.2.2 else S.2.2.2.2.2.2.2.2 + 1))
/-- what a refusal changes in the reference -/
def rQ2 (I J : zI) : Prop := ∀ a, a ≠ 74 → a ≠ 76 → J a = I a
theorem rI_bad {S : sT} {w : Nat} {k : Bool} (h : rI I S) : rI (badM (zup I 74 0 (nI 0)) w (if k then 0 else 1)) (rfU S k) ∧ badM (zup I 74 0 (nI 0)) w (if k then 0 else 1) 74 0 = nI w ∧ rQ2 I (badM (zup I 74 0 (nI 0)) w (if k then 0 else 1)) := by
  obtain ⟨J, hJ⟩ : ∃ J, badM (zup I 74 0 (nI 0)) w (if k then 0 else 1) = J := ⟨_, rfl⟩
  have e : ∀ a, a ≠ 74 → a ≠ 76 → J a = I a := fun a q1 q2 => by rw [← hJ]; unfold badM; rw [zup_row q2, zup_row q1, zup_row q1]
  have f : ∀ j, j ≠ 0 → J 74 j = I 74 j := fun j hj => by rw [← hJ]; unfold badM; rw [zup_row (by decide), zup_same, upd_ne hj, zup_same, upd_ne hj]
  have t0 : J 74 0 = nI w := by rw [← hJ]; unfold badM; rw [zup_row (by decide), zup_same, upd_at]
  have c : ∀ j, J 76 j = if j = (if k then 0 else 1) then I 76 j + nI 1 else I 76 j := fun j => by
    rw [← hJ]; unfold badM
    rw [zup_same]
    by_cases z : j = (if k then 0 else 1)
    · rw [← z, upd_at, if_pos rfl, zup_row (by decide)]
    · rw [upd_ne z, if_neg z, zup_row (by decide), zup_row (by decide)]
  rw [hJ]
  refine ⟨?_, t0, e⟩
  obtain ⟨h1, h2, h3, h4, h5, h6, h7, h8, h9, h10⟩ := h
  refine ⟨?_, by rw [f 3 (by decide)]; exact h2, rB_of h3 (f 20 (by decide)) (fun a ha => e a (by omega) (by omega)), rRow_of h4 (e 533 (by decide) (by decide)), ?_, ?_, ?_, by rw [f 37 (by decide)]; exact h8, ?_, ?_⟩
  · show rTp J S.1.1 S.1.2.1
    unfold rTp at *
    rw [f 1 (by decide), e 75 (by decide) (by decide)]; exact h1
  · exact rLn_of h5 (f 35 (by decide)) (fun a q1 q2 => e a (by omega) (by omega))
  · refine ⟨by rw [f 36 (by decide)]; exact h6.1, h6.2.1, fun i hi => ?_⟩
    exact rRow_of (h6.2.2 i hi) (e _ (by omega) (by omega))
  · refine ⟨by rw [f 38 (by decide)]; exact h7.1, h7.2.1, fun j hj => ?_⟩
    unfold kR
    rw [e (553 + 1 + j) (by omega) (by omega)]; exact h7.2.2 j hj
  · rw [c 0]
    cases k
    · exact h9
    · show I 76 0 + nI 1 = S.2.2.2.2.2.2.2.1 + 1
      rw [h9]; rfl
  · rw [c 1]
    cases k
    · show I 76 1 + nI 1 = S.2.2.2.2.2.2.2.2 + 1
      rw [h10]; rfl
    · exact h10
end ZRefU
