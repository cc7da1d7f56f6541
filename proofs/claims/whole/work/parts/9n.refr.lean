/-! ===== the reference: settled ===== -/
section ZRefR
variable {l : Launch} {Xi : zXi} {d : Nat} {I : zI} {g : zG}
theorem copy_row {a : Nat} {b : zWo} {R : rwT} (hN : bN b ≤ 6) (ha : a ≠ 533) (hR : rRow I 533 b R) : rRow (va_up I a (fun k => if k < 519 then I 533 k else I a k)) a b R := by
  have e : ∀ j, j < 519 → va_up I a (fun k => if k < 519 then I 533 k else I a k) a j = I 533 j := fun j hj => by rw [va_up_same]; exact if_pos hj
  exact ⟨fun j hj => by rw [e j (by omega)]; exact hR.1 j hj, fun m hm => by rw [e _ (by omega)]; exact hR.2.1 m hm, by rw [e _ (by omega)]; exact hR.2.2⟩
theorem m_settled (hl : l.stackTraces = false) (hd : 12 ≤ d) (hs : zSt g) {S : sT} (hI : rI I S) (hok : okS S) : zEi l Xi mX13_settled d [.ref 74] I g (fun v J => v = setG S.2.1 41 0 S.2.2.1 ∧ J 74 0 = nI 0 ∧ rQ I J) := by
  refine zC_of hl rfl rfl rfl (Nat.le_of_ble_eq_true rfl) (zav_r (zSt_ob hs 74 13 rfl).1 zav_0) ?_
  have hB := hI.2.2.1
  have hR := hI.2.2.2.1
  have hb := hB.1
  have hN6 := hb.2.2.2.2.1
  have ha := zSt_ar hs 534 519 rfl
  obtain ⟨b, hbb⟩ : ∃ b, S.2.1 = b := ⟨_, rfl⟩
  have hg : gnOk b := by rw [← hbb]; exact hok.1
  have hok0 : okR b S.2.2.1 := by rw [← hbb]; exact hok.2.1
  rw [hbb] at hB hR hb hN6 ⊢
  have loop : ∀ m k (R : rwT) (J : zI), k + m = 41 → okR b R → rQ I J → J 74 0 = nI 0 → rRow J 534 b R → setG b m k R = setG b 41 0 S.2.2.1 → zJ l Xi mX13_settled d 0 0 18 [some (.ref 74), some (.int (nI k))] [] (J, g) (fun r' h' => ∃ x I', r' = .inl (some (.int x)) ∧ h' = (I', g) ∧ x = setG b 41 0 S.2.2.1 ∧ I' 74 0 = nI 0 ∧ rQ I I') := by
    intro m
    induction m with
    | zero =>
      intro k R J hk hokR hJ h0 hRJ hset
      refine zJ_iload_n dX13_settled_18 rfl ?_
      refine zJ_bipush (v := nI 40) dX13_settled_19 rfl ?_
      refine zJ_icmp_gt 51 dX13_settled_21 (by decide) (fun _ => ?_) (fun c21 => absurd (nI_lt (by omega) (by omega)) c21)
      refine zJ_iconst (v := -1) dX13_settled_51 rfl ?_
      refine zJ_iret rfl dX13_settled_52 ?_
      exact ⟨_, J, rfl, rfl, hset, h0, hJ⟩
    | succ m ih =>
      intro k R J hk hokR hJ h0 hRJ hset
      have hBJ : rB J b := rB_of hB (hJ.2 20 (by decide) (by decide)) (fun a q => hJ.1 a (by omega) (by omega) (by omega) (by omega) (by omega) (by omega))
      rw [setG] at hset
      refine zJ_iload_n dX13_settled_18 rfl ?_
      refine zJ_bipush (v := nI 40) dX13_settled_19 rfl ?_
      refine zJ_icmp_gt 51 dX13_settled_21 (by decide) (fun c21 => absurd c21 (nI_nlt (by omega) (by omega))) (fun _ => ?_)
      refine zJ_aload_n dX13_settled_24 rfl ?_
      refine zJ_aload_n dX13_settled_25 rfl ?_
      refine zP_getr lf_X13_73 (zSt_ob hs 74 13 rfl) rfl (zSt_rf hs 74 31 534 rfl) dX13_settled_26 ?_
      refine zP_callVi [_] _ lv_X13_396 (m_isDone (d := d - 1) hl (by omega) hs hBJ ha hRJ hokR) (zSt_ob hs 74 13 rfl) rfl (by omega) (Nat.le_of_ble_eq_true rfl) rfl dX13_settled_29 ?_
      refine zJ_if_eq 37 dX13_settled_32 (by decide) (fun c32 => ?_) (fun c32 => ?_)
      · replace c32 := zb0.mp c32
        refine zJ_aload_n dX13_settled_37 rfl ?_
        refine zJ_aload_n dX13_settled_38 rfl ?_
        refine zP_getr lf_X13_73 (zSt_ob hs 74 13 rfl) rfl (zSt_rf hs 74 31 534 rfl) dX13_settled_39 ?_
        refine zP_ecallVv [_] _ lv_X13_347 (m_roundEnds (d := d - 1) hl (by omega) hs hBJ ha (by omega) hRJ hokR hg) (zSt_ob hs 74 13 rfl) rfl (by omega) (Nat.le_of_ble_eq_true rfl) rfl dX13_settled_42 (fun K hK => ?_)
        refine zJ_iinc1 dX13_settled_45 rfl (by decide) ?_
        refine zJ_goto 18 dX13_settled_48 (by decide) ?_
        rw [if_neg (by rw [c32]; decide)] at hset
        refine zJ_back (zle_r (zle_r zle_0)) rfl (ih (k + 1) _ K (by omega) (okR_rnd hb hg hokR) (rQ_trans hJ (rQ_rS (by omega) hK.1)) ?_ hK.2 hset)
        rw [hK.1 74 (by decide) (by decide) (by decide) (by decide) (by decide) (by decide)]; exact h0
      · replace c32 := zb1.mp c32
        refine zJ_iload_n dX13_settled_35 rfl ?_
        refine zJ_iret rfl dX13_settled_36 ?_
        rw [if_pos c32] at hset
        exact ⟨_, J, rfl, rfl, hset, h0, hJ⟩
  refine zJ_aload_n dX13_settled_0 rfl ?_
  refine zJ_iconst (v := nI 0) dX13_settled_1 rfl ?_
  refine zP_puti lf_X13_107 (zSt_ob hs 74 13 rfl) rfl dX13_settled_2 ?_
  refine zJ_aload_n dX13_settled_5 rfl ?_
  refine zP_getr lf_X13_70 (zSt_ob hs 74 13 rfl) rfl (zSt_rf hs 74 30 533 rfl) dX13_settled_6 ?_
  refine zJ_aload_n dX13_settled_9 rfl ?_
  refine zP_getr lf_X13_73 (zSt_ob hs 74 13 rfl) rfl (zSt_rf hs 74 31 534 rfl) dX13_settled_10 ?_
  refine zP_callSv [_, _] _ ls_X13_379 (k_copies (d := d - 1) hl (by omega) (zSt_ar hs 533 519 rfl) ha (by decide)) rfl (by omega) (Nat.le_of_ble_eq_true rfl) rfl dX13_settled_13 ?_
  refine zJ_iconst (v := nI 0) dX13_settled_16 rfl ?_
  refine zJ_istore_m 1 dX13_settled_17 rfl (Nat.le_of_ble_eq_true rfl) (by decide) ?_
  have hR1 : rRow (zup I 74 0 (nI 0)) 533 b S.2.2.1 := rRow_of hR (zup_row (by decide))
  refine zJ_back (zle_r (zle_r zle_0)) rfl (loop 41 0 S.2.2.1 _ (by omega) hok0 (rQ_trans rQ_thr ⟨fun c q1 q2 q3 q4 q5 q6 => va_up_row q4, fun k q1 q2 => by rw [va_up_row (by decide)]⟩) ?_ (copy_row hN6 (by decide) hR1) rfl)
  rw [va_up_row (by decide)]; exact thr_at
end ZRefR
