/-! ===== the reference: the row looked at ===== -/
section ZRefQ
variable {l : Launch} {Xi : zXi} {d : Nat} {I : zI} {g : zG}
theorem m_isTold (hl : l.stackTraces = false) (hd : 1 ≤ d) (hs : zSt g) {bk : List (Nat × Nat)} (hL : rLn I bk) {q : Nat} (hq : q < 64) : zD l Xi mX13_isTold d [.ref 74, .int (nI q)] I g (some (.int (if bkA bk q then 1 else 0))) I := by
  refine zC_of hl rfl rfl rfl (Nat.le_of_ble_eq_true rfl) (zav_r (zSt_ob hs 74 13 rfl).1 (zav_i zav_0)) ?_
  obtain ⟨h1, h2, h3⟩ := hL
  have loop : ∀ m p, p + m = bk.length → anyB (fun i => decide (bkP bk i = q)) p = false → zJ l Xi mX13_isTold d 0 0 2 [some (.ref 74), some (.int (nI q)), some (.int (nI p))] [] (I, g) (fun r' h' => r' = .inl (some (.int (if bkA bk q then 1 else 0))) ∧ h' = (I, g)) := by
    intro m
    induction m with
    | zero =>
      intro p hp hI
      obtain rfl : p = bk.length := by omega
      refine zJ_iload_n dX13_isTold_2 rfl ?_
      refine zJ_aload_n dX13_isTold_3 rfl ?_
      refine zP_geti lf_X13_215 (zSt_ob hs 74 13 rfl) rfl dX13_isTold_4 ?_
      refine zJ_icmp_ge 30 dX13_isTold_7 (by decide) (fun _ => ?_) (fun c7 => absurd (by rw [h1]; exact nI_le (by omega) (by omega)) c7)
      refine zJ_iconst (v := nI 0) dX13_isTold_30 rfl ?_
      refine zJ_zret rfl (by decide) dX13_isTold_31 ?_
      exact ⟨by unfold bkA; rw [hI]; rfl, rfl⟩
    | succ m ih =>
      intro p hp hI
      have hp3 := h3 p (by omega)
      refine zJ_iload_n dX13_isTold_2 rfl ?_
      refine zJ_aload_n dX13_isTold_3 rfl ?_
      refine zP_geti lf_X13_215 (zSt_ob hs 74 13 rfl) rfl dX13_isTold_4 ?_
      refine zJ_icmp_ge 30 dX13_isTold_7 (by decide) (fun c7 => absurd c7 (by rw [h1]; exact nI_ge (by omega) (by omega))) (fun _ => ?_)
      refine zJ_aload_n dX13_isTold_10 rfl ?_
      refine zP_getr lf_X13_55 (zSt_ob hs 74 13 rfl) rfl (zSt_rf hs 74 24 432 rfl) dX13_isTold_11 ?_
      refine zJ_iload_n dX13_isTold_14 rfl ?_
      refine zP_rowK (k := p) (zSt_g432 hs) (by omega) (by decide) dX13_isTold_15 ?_
      refine zJ_iconst (v := nI 0) dX13_isTold_16 rfl ?_
      refine zP_iald (zGr_ar (zSt_g432 hs) (i := p) (by omega)) (by first | assumption | with_reducible exact vp_in_nI (by omega) (by omega) | (simp (disch := omega) only [nI_add, pk_mul, pk_sub, pk_div, pk_rem, nI_clamp]; with_reducible exact vp_in_nI (by omega) (by omega))) dX13_isTold_17 ?_
      rw [nI_clamp (by omega), hp3.1]
      refine zJ_iload_n dX13_isTold_18 rfl ?_
      refine zJ_icmp_ne 24 dX13_isTold_19 (by decide) (fun c19 => ?_) (fun c19 => ?_)
      · skip
        refine zJ_iinc1 dX13_isTold_24 rfl (by decide) ?_
        refine zJ_goto 2 dX13_isTold_27 (by decide) ?_
        refine zJ_back (zle_r (zle_r (zle_r zle_0))) rfl (ih (p + 1) (by omega) ?_)
        show (anyB (fun i => decide (bkP bk i = q)) p || decide (bkP bk p = q)) = false
        rw [hI, Bool.false_or]
        exact decide_eq_false (fun e => c19 (by rw [e]))
      · skip
        refine zJ_iconst (v := nI 1) dX13_isTold_22 rfl ?_
        refine zJ_zret rfl (by decide) dX13_isTold_23 ?_
        have e : bkA bk q = true := anyB_iff.mpr ⟨p, by omega, decide_eq_true ((nI_eq (by have := hp3.2.2.1; omega) (by omega)).mp c19)⟩
        exact ⟨by rw [e]; rfl, rfl⟩
  refine zJ_iconst (v := nI 0) dX13_isTold_0 rfl ?_
  refine zJ_istore_m 2 dX13_isTold_1 rfl (Nat.le_of_ble_eq_true rfl) (by decide) ?_
  exact loop bk.length 0 (by omega) rfl
end ZRefQ
