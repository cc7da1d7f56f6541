/-! ===== the reference: parent, cost ===== -/
section ZRefU
variable {l : Launch} {Xi : zXi} {d : Nat} {I : zI} {g : zG}
def qNet (b : zWo) (x : Int32) : Bool := decide (¬ x < 0 ∧ x < nI (bN b))
theorem m_isNet (hl : l.stackTraces = false) (hd : 2 ≤ d) (hs : zSt g) {b : zWo} (hB : rB I b) {x : Int32} : zD l Xi mX13_isNet d [.ref 74, .int x] I g (some (.int (if qNet b x then 1 else 0))) I := by
  refine zC_of hl rfl rfl rfl (Nat.le_of_ble_eq_true rfl) (zav_r (zSt_ob hs 74 13 rfl).1 (zav_i zav_0)) ?_
  have hN6 := hB.1.2.2.2.2.1
  have hN : I 78 (nI 2).toNatClampNeg = nI (bN b) := by rw [nI_clamp (by omega)]; exact hB.2.1.2.2.1
  refine zJ_iload_n dX13_isNet_0 rfl ?_
  refine zJ_iconst (v := nI 0) dX13_isNet_1 rfl ?_
  refine zJ_aload_n dX13_isNet_2 rfl ?_
  refine zP_getr lf_X13_23 (zSt_ob hs 74 13 rfl) rfl (zSt_rf hs 74 12 78 rfl) dX13_isNet_3 ?_
  refine zJ_iconst (v := nI 2) dX13_isNet_6 rfl ?_
  refine zP_iald (zSt_ar hs 78 4 rfl) (by first | assumption | with_reducible exact vp_in_nI (by omega) (by omega) | (simp (disch := omega) only [nI_add, pk_mul, pk_sub, pk_div, pk_rem, nI_clamp]; with_reducible exact vp_in_nI (by omega) (by omega))) dX13_isNet_7 ?_
  rw [hN]
  refine zJ_iconst (v := nI 1) dX13_isNet_8 rfl ?_
  refine zJ_isub dX13_isNet_9 ?_
  refine zP_callSi [_, _, _] _ ls_X13_141 (k_in (d := d - 1) hl (by omega)) rfl (by omega) (Nat.le_of_ble_eq_true rfl) rfl dX13_isNet_10 ?_
  refine zJ_zret rfl zbr dX13_isNet_13 ?_
  refine ⟨?_, rfl⟩
  have e : decide (¬ x < nI 0 ∧ x ≤ nI (bN b) - nI 1) = qNet b x := decide_eq_decide.mpr ⟨fun h => ⟨h.1, (le_pred (by omega) h.1).mp h.2⟩, fun h => ⟨h.1, (le_pred (by omega) h.1).mpr h.2⟩⟩
  rw [e]
end ZRefU
