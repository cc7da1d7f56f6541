/-! ===== Law: units, products, sums ===== -/
section ZLawU
variable {l : Launch} {Xi : zXi} {d : Nat} {I : zI} {g : zG}
theorem k_unitF (hl : l.stackTraces = false) (hs : zSt g) (hd : 2 ≤ d) {bs : Nat → Nat} {L A F o : Nat} {q : Nat × Nat} (h : lOk I bs L A F (.inl q)) : zEv l Xi mX5_readUnit d [.ref 25, .ref 1, .int (nI o)] I g (fun J => fL I J ∧ ∃ A' F', lOk J bs L A' F' (.inl q)) := by
  refine zC_of hl rfl rfl rfl (Nat.le_of_ble_eq_true rfl) (zav_r (zSt_ob hs 25 5 rfl).1 (zav_r (zSt_ob hs 1 10 rfl).1 (zav_i zav_0))) ?_
  refine zJ_aload_n dX5_readUnit_0 rfl ?_
  refine zP_callVi [] _ lv_X5_41 (k_failed (d := d - 1) hl (by omega) hs h.1) (zSt_ob hs 1 10 rfl) rfl (by omega) (Nat.le_of_ble_eq_true rfl) rfl dX5_readUnit_1 ?_
  refine zJ_if_eq 8 dX5_readUnit_4 (by decide) (fun c4 => absurd c4 (show ¬ ((1 : Int32) = 0) by decide)) (fun _ => ?_)
  refine zJ_vret rfl dX5_readUnit_7 ?_
  exact ⟨rfl, I, rfl, fL_rfl, A, F, h⟩
theorem k_prodF (hl : l.stackTraces = false) (hs : zSt g) (hd : 3 ≤ d) {bs : Nat → Nat} {L A F o : Nat} {q : Nat × Nat} (h : lOk I bs L A F (.inl q)) : zEv l Xi mX5_readProduct d [.ref 25, .ref 1, .int (nI o)] I g (fun J => fL I J ∧ ∃ A' F', lOk J bs L A' F' (.inl q)) := by
  refine zC_of hl rfl rfl rfl (Nat.le_of_ble_eq_true rfl) (zav_r (zSt_ob hs 25 5 rfl).1 (zav_r (zSt_ob hs 1 10 rfl).1 (zav_i zav_0))) ?_
  refine zJ_aload_n dX5_readProduct_0 rfl ?_
  refine zJ_aload_n dX5_readProduct_1 rfl ?_
  refine zJ_iload_n dX5_readProduct_2 rfl ?_
  refine zP_ecallVv [_, _] _ lv_X5_68 (k_unitF (d := d - 1) hl hs (by omega) h) (zSt_ob hs 25 5 rfl) rfl (by omega) (Nat.le_of_ble_eq_true rfl) rfl dX5_readProduct_3 (fun J hJ => ?_)
  obtain ⟨f1, A1, F1, h1⟩ := hJ
  refine zJ_iconst (v := nI 0) dX5_readProduct_6 rfl ?_
  refine zJ_istore_m 3 dX5_readProduct_7 rfl (Nat.le_of_ble_eq_true rfl) (by decide) ?_
  refine zJ_iload_n dX5_readProduct_8 rfl ?_
  refine zJ_sipush (v := nI 150) dX5_readProduct_9 rfl ?_
  refine zJ_icmp_ge 95 dX5_readProduct_12 (by decide) (fun c12 => absurd c12 (by decide)) (fun _ => ?_)
  refine zJ_aload_n dX5_readProduct_15 rfl ?_
  refine zP_callVi [] _ lv_X5_41 (k_failed (d := d - 1) hl (by omega) hs h1.1) (zSt_ob hs 1 10 rfl) rfl (by omega) (Nat.le_of_ble_eq_true rfl) rfl dX5_readProduct_16 ?_
  refine zJ_if_ne 95 dX5_readProduct_19 (by decide) (fun _ => ?_) (fun c19 => absurd c19 (show ¬ ((1 : Int32) = 0) by decide))
  refine zJ_vret rfl dX5_readProduct_95 ?_
  exact ⟨rfl, J, rfl, f1, A1, F1, h1⟩
theorem k_sumF (hl : l.stackTraces = false) (hs : zSt g) (hd : 4 ≤ d) {bs : Nat → Nat} {L A F o : Nat} {q : Nat × Nat} (h : lOk I bs L A F (.inl q)) : zEv l Xi mX5_readSum d [.ref 25, .ref 1, .int (nI o)] I g (fun J => fL I J ∧ ∃ A' F', lOk J bs L A' F' (.inl q)) := by
  refine zC_of hl rfl rfl rfl (Nat.le_of_ble_eq_true rfl) (zav_r (zSt_ob hs 25 5 rfl).1 (zav_r (zSt_ob hs 1 10 rfl).1 (zav_i zav_0))) ?_
  refine zJ_aload_n dX5_readSum_0 rfl ?_
  refine zJ_aload_n dX5_readSum_1 rfl ?_
  refine zJ_iload_n dX5_readSum_2 rfl ?_
  refine zP_ecallVv [_, _] _ lv_X5_57 (k_prodF (d := d - 1) hl hs (by omega) h) (zSt_ob hs 25 5 rfl) rfl (by omega) (Nat.le_of_ble_eq_true rfl) rfl dX5_readSum_3 (fun J hJ => ?_)
  obtain ⟨f1, A1, F1, h1⟩ := hJ
  refine zJ_iconst (v := nI 0) dX5_readSum_6 rfl ?_
  refine zJ_istore_m 3 dX5_readSum_7 rfl (Nat.le_of_ble_eq_true rfl) (by decide) ?_
  refine zJ_iload_n dX5_readSum_8 rfl ?_
  refine zJ_sipush (v := nI 150) dX5_readSum_9 rfl ?_
  refine zJ_icmp_ge 80 dX5_readSum_12 (by decide) (fun c12 => absurd c12 (by decide)) (fun _ => ?_)
  refine zJ_aload_n dX5_readSum_15 rfl ?_
  refine zP_callVi [] _ lv_X5_41 (k_failed (d := d - 1) hl (by omega) hs h1.1) (zSt_ob hs 1 10 rfl) rfl (by omega) (Nat.le_of_ble_eq_true rfl) rfl dX5_readSum_16 ?_
  refine zJ_if_ne 80 dX5_readSum_19 (by decide) (fun _ => ?_) (fun c19 => absurd c19 (show ¬ ((1 : Int32) = 0) by decide))
  refine zJ_vret rfl dX5_readSum_80 ?_
  exact ⟨rfl, J, rfl, f1, A1, F1, h1⟩
set_option maxHeartbeats 1000000 in
theorem c_unit (hl : l.stackTraces = false) (hs : zSt g) {f : Nat} (hS : cLaw l Xi g mX5_readSum 9 0 f) : cLaw l Xi g mX5_readUnit 7 4 (f + 1) := by
  intro o d I bs L A F r ho hd hL h hr
  cases r with
  | inl q => exact k_unitF hl hs (by omega) h
  | inr q =>
    obtain ⟨e1, hw, hcs⟩ := h.2.2 q.1 q.2 rfl
    obtain ⟨cs, a⟩ := q
    simp only at e1 hw hcs
    subst e1
    have ht : tX I bs L A F none := h.1
    have hle := tX_le ht
    have hr1 := hr cs A rfl
    have hg : A ≤ sk bs L A := sp_g
    have hl2 : sk bs L A ≤ L := sp_l hle.1
    rw [pL_u] at hr1
    simp only [pbind_inr]
    rw [pL_u]
    refine zC_of hl rfl rfl rfl (Nat.le_of_ble_eq_true rfl) (zav_r (zSt_ob hs 25 5 rfl).1 (zav_r (zSt_ob hs 1 10 rfl).1 (zav_i zav_0))) ?_
    refine zJ_aload_n dX5_readUnit_0 rfl ?_
    refine zP_callVi [] _ lv_X5_41 (k_failed (d := d - 1) hl (by omega) hs ht) (zSt_ob hs 1 10 rfl) rfl (by omega) (Nat.le_of_ble_eq_true rfl) rfl dX5_readUnit_1 ?_
    refine zJ_if_eq 8 dX5_readUnit_4 (by decide) (fun _ => ?_) (fun c4 => absurd rfl c4)
    refine zJ_aload_n dX5_readUnit_8 rfl ?_
    refine zP_ecallVi [] _ lv_X5_71 (k_digitIsNext (d := d - 1) hl (by omega) hs ht) (zSt_ob hs 1 10 rfl) rfl (by omega) (Nat.le_of_ble_eq_true rfl) rfl dX5_readUnit_9 (fun x1 J1 hx1 => ?_)
    obtain ⟨rfl, f1, t1⟩ := hx1
    refine zJ_if_eq 30 dX5_readUnit_12 (by decide) (fun c12 => ?_) (fun c12 => ?_)
    · replace c12 := zb0.mp c12
      rw [if_neg (by rw [c12]; decide)] at hr1 ⊢
      have lk1 : lOk J1 bs L (sk bs L A) (sk bs L A) (.inr (cs, sk bs L A)) := lOk_needs t1 (lw_fT hw f1) (by omega) (by omega)
      have h54 : ∀ (J4 : zI), fT I J4 → tX J4 bs L (woE bs L A) (sk bs L A) none → hitB bs L (sk bs L A) 40 = false → zJ l Xi mX5_readUnit d 0 0 58 [some (.ref 25), some (.ref 1), some (.int (nI o))] [] (J4, g) (fun r' h' => r' = .inl none ∧ ∃ J, h' = (J, g) ∧ fL I J ∧ ∃ A' F', lOk J bs L A' F' (pbind (if hitB bs L (sk bs L A) 40 then (if 6 ≤ o then .inl (3, sk bs L A) else pbind (pL bs L f 0 (o + 1) (sk bs L A + 1)) fun c A => pbind (pSign bs L 41 A) fun _ A => .inr (c, A))
      else if wdB bs (sk bs L A) (woE bs L A) 13 || wdB bs (sk bs L A) (woE bs L A) 14 then
      (if 6 ≤ o then .inl (3, sk bs L A) else pbind (pSign bs L 91 (woE bs L A)) fun _ A1 => pbind (pL bs L f 0 (o + 1) A1) fun c A1 => pbind (pSign bs L 44 A1) fun _ A1 => pbind (pL bs L f 0 (o + 1) A1) fun c' A1 => pbind (pSign bs L 93 A1) fun _ A1 => .inr (c ++ c' ++ [if wdB bs (sk bs L A) (woE bs L A) 13 then nI 2005 else nI 2006], A1))
      else if kdN bs (sk bs L A) (woE bs L A) = 8 then .inl (1, sk bs L A) else .inr ([nI (1000 + kdN bs (sk bs L A) (woE bs L A))], woE bs L A)) fun c A => .inr (cs ++ c, A))) := by
        intro J4 f4 t4 hh
        rw [hh] at hr1 ⊢
        simp only [Bool.false_eq_true, if_false] at hr1 ⊢
        have hwg : sk bs L A ≤ woE bs L A := sp_g
        have lk4 : lOk J4 bs L (woE bs L A) (sk bs L A) (.inr (cs, woE bs L A)) := lOk_needs t4 (lw_fT hw f4) (by omega) (by omega)
        refine zJ_aload_n dX5_readUnit_58 rfl ?_
        refine zJ_ldcS (num := 10 + 13) (tx := "least") (List.mem_of_getElem? (i := 14) rfl) dX5_readUnit_59 ?_
        refine zP_callVi [_] _ lv_X5_90 (k_wordIs (i := 13) (d := d - 1) hl (by omega) hs t4 (by decide)) (zSt_ob hs 1 10 rfl) rfl (by omega) (Nat.le_of_ble_eq_true rfl) rfl dX5_readUnit_61 ?_
        refine zJ_if_eq 79 dX5_readUnit_64 (by decide) (fun c64 => ?_) (fun c64 => ?_)
        · replace c64 := zb0.mp c64
          refine zJ_aload_n dX5_readUnit_79 rfl ?_
          refine zJ_ldcS (num := 10 + 14) (tx := "most") (List.mem_of_getElem? (i := 15) rfl) dX5_readUnit_80 ?_
          refine zP_callVi [_] _ lv_X5_90 (k_wordIs (i := 14) (d := d - 1) hl (by omega) hs t4 (by decide)) (zSt_ob hs 1 10 rfl) rfl (by omega) (Nat.le_of_ble_eq_true rfl) rfl dX5_readUnit_82 ?_
          refine zJ_if_eq 100 dX5_readUnit_85 (by decide) (fun c85 => ?_) (fun c85 => ?_)
          · replace c85 := zb0.mp c85
            refine zJ_aload_n dX5_readUnit_100 rfl ?_
            refine zJ_aload_n dX5_readUnit_101 rfl ?_
            refine zP_ecallVv [_] _ lv_X5_100 (k_readName (d := d - 1) hl (by omega) hs lk4 hL (by omega)) (zSt_ob hs 25 5 rfl) rfl (by omega) (Nat.le_of_ble_eq_true rfl) rfl dX5_readUnit_102 (fun J5 hJ5 => ?_)
            refine zJ_vret rfl dX5_readUnit_105 ?_
            rw [c64, c85]
            obtain ⟨f5, A5, F5, h5⟩ := hJ5
            refine ⟨rfl, J5, rfl, fL_trans (fL_fT f4) f5, A5, F5, lOk_eq h5 ?_⟩
            simp only [Bool.false_or, Bool.false_eq_true, if_false]
            by_cases e : kdN bs (sk bs L A) (woE bs L A) = 8
            · rw [if_pos e, if_pos e]; rfl
            · rw [if_neg e, if_neg e]; rfl
          · replace c85 := zb1.mp c85
            rw [c64, c85] at hr1 ⊢
            simp only [Bool.false_or, if_true, Bool.false_eq_true, if_false] at hr1 ⊢
            refine zJ_aload_n dX5_readUnit_88 rfl ?_
            refine zJ_aload_n dX5_readUnit_89 rfl ?_
            refine zJ_iload_n dX5_readUnit_90 rfl ?_
            refine zJ_sipush (v := nI 2006) dX5_readUnit_91 rfl ?_
            refine zP_ecallVv [_, _, _] _ lv_X5_94 (k_readPair (d := d - 1) hl hs hS ho (by omega) hL lk4 (fun z => by rw [if_neg (by omega)] at hr1; exact hr1)) (zSt_ob hs 25 5 rfl) rfl (by omega) (Nat.le_of_ble_eq_true rfl) rfl dX5_readUnit_94 (fun J5 hJ5 => ?_)
            refine zJ_goto 105 dX5_readUnit_97 (by decide) ?_
            refine zJ_vret rfl dX5_readUnit_105 ?_
            obtain ⟨f5, A5, F5, h5⟩ := hJ5
            refine ⟨rfl, J5, rfl, fL_trans (fL_fT f4) f5, A5, F5, lOk_eq h5 ?_⟩
            by_cases e : 6 ≤ o
            · rw [if_pos e, if_pos e]; rfl
            · rw [if_neg e, if_neg e]; simp only [pbind_assoc, pbind_inr]
        · replace c64 := zb1.mp c64
          rw [c64] at hr1 ⊢
          simp only [Bool.true_or, if_true] at hr1 ⊢
          refine zJ_aload_n dX5_readUnit_67 rfl ?_
          refine zJ_aload_n dX5_readUnit_68 rfl ?_
          refine zJ_iload_n dX5_readUnit_69 rfl ?_
          refine zJ_sipush (v := nI 2005) dX5_readUnit_70 rfl ?_
          refine zP_ecallVv [_, _, _] _ lv_X5_94 (k_readPair (d := d - 1) hl hs hS ho (by omega) hL lk4 (fun z => by rw [if_neg (by omega)] at hr1; exact hr1)) (zSt_ob hs 25 5 rfl) rfl (by omega) (Nat.le_of_ble_eq_true rfl) rfl dX5_readUnit_73 (fun J5 hJ5 => ?_)
          refine zJ_goto 105 dX5_readUnit_76 (by decide) ?_
          refine zJ_vret rfl dX5_readUnit_105 ?_
          obtain ⟨f5, A5, F5, h5⟩ := hJ5
          refine ⟨rfl, J5, rfl, fL_trans (fL_fT f4) f5, A5, F5, lOk_eq h5 ?_⟩
          by_cases e : 6 ≤ o
          · rw [if_pos e, if_pos e]; rfl
          · rw [if_neg e, if_neg e]; simp only [pbind_assoc, pbind_inr]
      refine zJ_aload_n dX5_readUnit_30 rfl ?_
      refine zJ_bipush (v := nI 40) dX5_readUnit_31 rfl ?_
      refine zP_ecallVi [_] _ lv_X5_60 (k_takes (c := 40) (d := d - 1) hl (by omega) hs t1 (by omega)) (zSt_ob hs 1 10 rfl) rfl (by omega) (Nat.le_of_ble_eq_true rfl) rfl dX5_readUnit_33 (fun x2 J2 hx2 => ?_)
      rw [sk_sk] at hx2
      obtain ⟨rfl, f2, t2⟩ := hx2
      refine zJ_if_eq 54 dX5_readUnit_36 (by decide) (fun c36 => ?_) (fun c36 => ?_)
      · replace c36 := zb0.mp c36
        refine zJ_aload_n dX5_readUnit_54 rfl ?_
        refine zP_ecallVv [] _ lv_X5_85 (k_readWord (A := sk bs L A) (F := sk bs L A) (d := d - 1) hl (by omega) hs (by rw [c36] at t2; exact t2)) (zSt_ob hs 1 10 rfl) rfl (by omega) (Nat.le_of_ble_eq_true rfl) rfl dX5_readUnit_55 (fun J4 hJ4 => ?_)
        rw [woE_sk, sk_sk] at hJ4
        exact h54 J4 (fT_trans f1 (fT_trans f2 hJ4.1)) hJ4.2 c36
      · replace c36 := zb1.mp c36
        rw [c36] at hr1 t2 ⊢
        simp only [if_true] at hr1 t2 ⊢
        have hsl := hit_lt c36
        have lk2 : lOk J2 bs L (sk bs L A + 1) (sk bs L A) (.inr (cs, sk bs L A + 1)) := lOk_needs t2 (lw_fT hw (fT_trans f1 f2)) (by omega) (by omega)
        refine zJ_aload_n dX5_readUnit_39 rfl ?_
        refine zJ_aload_n dX5_readUnit_40 rfl ?_
        refine zJ_iload_n dX5_readUnit_41 rfl ?_
        refine zP_ecallVv [_, _] _ lv_X5_78 (k_readInside (d := d - 1) hl hs hS ho (by omega) hL lk2 (fun c a z ho6 => by cases z; rw [if_neg (by omega)] at hr1; exact fun y => hr1 (by rw [y]; rfl))) (zSt_ob hs 25 5 rfl) rfl (by omega) (Nat.le_of_ble_eq_true rfl) rfl dX5_readUnit_42 (fun J3 hJ3 => ?_)
        obtain ⟨f3, A3, F3, h3⟩ := hJ3
        refine zJ_aload_n dX5_readUnit_45 rfl ?_
        refine zJ_bipush (v := nI 41) dX5_readUnit_46 rfl ?_
        refine zP_ecallVv [_] _ lv_X5_81 (k_needL (d := d - 1) hl (by omega) hs h3 (by omega)) (zSt_ob hs 1 10 rfl) rfl (by omega) (Nat.le_of_ble_eq_true rfl) rfl dX5_readUnit_48 (fun J4 hJ4 => ?_)
        refine zJ_goto 105 dX5_readUnit_51 (by decide) ?_
        refine zJ_vret rfl dX5_readUnit_105 ?_
        obtain ⟨f4, A4, F4, h4⟩ := hJ4
        refine ⟨rfl, J4, rfl, fL_trans (fL_fT (fT_trans f1 f2)) (fL_trans f3 f4), A4, F4, lOk_eq h4 ?_⟩
        by_cases e : 6 ≤ o
        · simp only [if_pos e]; rfl
        · simp only [if_neg e, pbind_assoc, pbind_inr]
    · replace c12 := zb1.mp c12
      refine zJ_aload_n dX5_readUnit_15 rfl ?_
      refine zJ_aload_n dX5_readUnit_16 rfl ?_
      refine zJ_iconst (v := nI 0) dX5_readUnit_17 rfl ?_
      refine zJ_sipush (v := nI 999) dX5_readUnit_18 rfl ?_
      refine zP_ecallVi [_, _] _ lv_X5_74 (k_number (lo := 0) (hi := 1000) (d := d - 1) hl (by omega) hs t1 (by omega) (by omega) rfl (nI_pred 999).symm) (zSt_ob hs 1 10 rfl) rfl (by omega) (Nat.le_of_ble_eq_true rfl) rfl dX5_readUnit_21 (fun x2 J2 hx2 => ?_)
      obtain ⟨v, rfl, hv, hn, f2, t2⟩ := hx2
      have hlk : lOk J2 bs L (nuE bs L A) (sk bs L A) (pbind (pNum bs L 0 1000 A) fun _ A => .inr (cs, A)) := by { rw [← pNum_sk] ; refine ⟨?_, ⟨cs.length, by omega, by rw [f2 25 (by decide), f1 25 (by decide)]; exact hw.1⟩, fun c a z => ?_⟩; { unfold nuE at t2 ⊢; rw [sk_sk] at t2; unfold pNum; cases e : nuX bs L (sk bs L A) 0 1000 <;> (rw [e] at t2; exact t2) }; { obtain ⟨y, b, e, z⟩ := pbind_ok z; cases z; have p := pNum_ok e (by omega); refine ⟨?_, lw_fT hw (fT_trans f1 f2), by omega⟩; unfold pNum at e; cases e9 : nuX bs L (sk bs L A) 0 1000 with | some q => (rw [e9] at e; cases e) | none => (rw [e9] at e; cases e; unfold nuE; rw [sk_sk]) } }
      refine zP_ecallVv [_] _ lv_X5_64 (k_emit (d := d - 1) hl (by omega) hs hlk hL (fun c a z => by obtain ⟨y, b, e, z⟩ := pbind_ok z; cases z; have p := pNum_ok e hle.1; omega)) (zSt_ob hs 25 5 rfl) rfl (by omega) (Nat.le_of_ble_eq_true rfl) rfl dX5_readUnit_24 (fun J3 hJ3 => ?_)
      refine zJ_goto 105 dX5_readUnit_27 (by decide) ?_
      refine zJ_vret rfl dX5_readUnit_105 ?_
      rw [if_pos c12]
      refine ⟨rfl, J3, rfl, fL_trans (fL_fT (fT_trans f1 f2)) hJ3.1, _, _, lOk_eq hJ3.2 ?_⟩
      simp only [pbind_assoc, pbind_inr]
      cases e : pNum bs L 0 1000 A with
      | inl q => rfl
      | inr q =>
        simp only [pbind]
        rw [← pNum_sk] at e
        unfold pNum at e
        cases e9 : nuX bs L (sk bs L A) 0 1000 with
        | some q => rw [e9] at e; cases e
        | none =>
          rw [e9] at e
          have := hn e9
          cases e
          rw [this.1]
set_option maxHeartbeats 1000000 in
theorem c_prod (hl : l.stackTraces = false) (hs : zSt g) {f : Nat} (hU : ∀ k, k ≤ f → cLaw l Xi g mX5_readUnit 7 4 k) : cLaw l Xi g mX5_readProduct 8 2 (f + 1) := by
  intro o d I bs L A F r ho hd hL h hr
  cases r with
  | inl q => exact k_prodF hl hs (by omega) h
  | inr q =>
    obtain ⟨cs, a⟩ := q
    refine zC_of hl rfl rfl rfl (Nat.le_of_ble_eq_true rfl) (zav_r (zSt_ob hs 25 5 rfl).1 (zav_r (zSt_ob hs 1 10 rfl).1 (zav_i zav_0))) ?_
    have loop : ∀ k, k ≤ f → ∀ (R : PR (List Int32)) (i : Nat) (J : zI) (A F : Nat) (r : PR (List Int32)), fL I J → lOk J bs L A F r → (∀ cs a, r = .inr (cs, a) → i < cs.length ∧ pL bs L k 3 o a ≠ .inl (0, 0)) → (pbind r fun cs A => pbind (pL bs L k 3 o A) fun c A => .inr (cs ++ c, A)) = R → zJ l Xi mX5_readProduct d 0 0 8 [some (.ref 25), some (.ref 1), some (.int (nI o)), some (.int (nI i)), none] [] (J, g) (fun r' h' => r' = .inl none ∧ ∃ J', h' = (J', g) ∧ fL I J' ∧ ∃ A' F', lOk J' bs L A' F' R) := by
      intro k
      induction k with
      | zero =>
        intro _ R i J A F r hf hk hi hR
        cases r with
        | inr q => exact absurd rfl (hi q.1 q.2 rfl).2
        | inl q =>
          have hR' : .inl q = R := hR
          subst hR'
          refine zJ_iload_n dX5_readProduct_8 rfl ?_
          refine zJ_sipush (v := nI 150) dX5_readProduct_9 rfl ?_
          refine zJ_icmp_ge 95 dX5_readProduct_12 (by decide) (fun c12 => ?_) (fun c12 => ?_)
          · skip
            refine zJ_vret rfl dX5_readProduct_95 ?_
            exact ⟨rfl, J, rfl, hf, A, F, hk⟩
          · skip
            refine zJ_aload_n dX5_readProduct_15 rfl ?_
            refine zP_callVi [] _ lv_X5_41 (k_failed (d := d - 1) hl (by omega) hs hk.1) (zSt_ob hs 1 10 rfl) rfl (by omega) (Nat.le_of_ble_eq_true rfl) rfl dX5_readProduct_16 ?_
            refine zJ_if_ne 95 dX5_readProduct_19 (by decide) (fun _ => ?_) (fun c19 => absurd c19 (show ¬ ((1 : Int32) = 0) by decide))
            refine zJ_vret rfl dX5_readProduct_95 ?_
            exact ⟨rfl, J, rfl, hf, A, F, hk⟩
      | succ k ih =>
        intro hkf R i J A F r hf hk hi hR
        cases r with
        | inl q =>
          have hR' : .inl q = R := hR
          subst hR'
          refine zJ_iload_n dX5_readProduct_8 rfl ?_
          refine zJ_sipush (v := nI 150) dX5_readProduct_9 rfl ?_
          refine zJ_icmp_ge 95 dX5_readProduct_12 (by decide) (fun c12 => ?_) (fun c12 => ?_)
          · skip
            refine zJ_vret rfl dX5_readProduct_95 ?_
            exact ⟨rfl, J, rfl, hf, A, F, hk⟩
          · skip
            refine zJ_aload_n dX5_readProduct_15 rfl ?_
            refine zP_callVi [] _ lv_X5_41 (k_failed (d := d - 1) hl (by omega) hs hk.1) (zSt_ob hs 1 10 rfl) rfl (by omega) (Nat.le_of_ble_eq_true rfl) rfl dX5_readProduct_16 ?_
            refine zJ_if_ne 95 dX5_readProduct_19 (by decide) (fun _ => ?_) (fun c19 => absurd c19 (show ¬ ((1 : Int32) = 0) by decide))
            refine zJ_vret rfl dX5_readProduct_95 ?_
            exact ⟨rfl, J, rfl, hf, A, F, hk⟩
        | inr q =>
          obtain ⟨cs, a⟩ := q
          obtain ⟨e1, hw, hcs⟩ := hk.2.2 cs a rfl
          subst e1
          have ht : tX J bs L A F none := hk.1
          have hle := tX_le ht
          obtain ⟨hi1, hi2⟩ := hi cs A rfl
          have hg : A ≤ sk bs L A := sp_g
          have hl2 : sk bs L A ≤ L := sp_l hle.1
          simp only [pbind_inr] at hR
          have hst : ∀ (c : Nat) (J1 : zI), c < 3000 → fL I J1 → lw J1 cs → tX J1 bs L (sk bs L A + 1) (sk bs L A) none → pL bs L (k + 1) 3 o A = (pbind (pL bs L k 4 o (sk bs L A + 1)) fun c1 A => pbind (pL bs L k 3 o A) fun c' A => .inr (c1 ++ [nI c] ++ c', A)) → zJ l Xi mX5_readProduct d 0 0 68 [some (.ref 25), some (.ref 1), some (.int (nI o)), some (.int (nI i)), none] [.int (nI c)] (J1, g) (fun r' h' => r' = .inl none ∧ ∃ J', h' = (J', g) ∧ fL I J' ∧ ∃ A' F', lOk J' bs L A' F' R) := by
            intro c J1 hc f1 w1 t1 hp
            rw [hp] at hi2 hR
            have lk1 : lOk J1 bs L (sk bs L A + 1) (sk bs L A) (.inr (cs, sk bs L A + 1)) := lOk_needs t1 w1 (by omega) (by omega)
            refine zJ_istore dX5_readProduct_68 (Nat.le_of_ble_eq_true rfl) (by decide) ?_
            refine zJ_iload dX5_readProduct_70 rfl ?_
            refine zJ_iconst (v := -1) dX5_readProduct_72 rfl ?_
            refine zJ_icmp_ne 77 dX5_readProduct_73 (by decide) (fun _ => ?_) (fun c73 => absurd c73 (nI_ne1 (by omega)))
            refine zJ_aload_n dX5_readProduct_77 rfl ?_
            refine zJ_aload_n dX5_readProduct_78 rfl ?_
            refine zJ_iload_n dX5_readProduct_79 rfl ?_
            refine zP_ecallVv [_, _] _ lv_X5_68 (hU k (by omega) o (d - 1) J1 bs L _ _ _ ho (by omega) hL lk1 (fun c a z => by cases z; exact fun y => hi2 (by rw [y]; rfl))) (zSt_ob hs 25 5 rfl) rfl (by omega) (Nat.le_of_ble_eq_true rfl) rfl dX5_readProduct_80 (fun J2 hJ2 => ?_)
            obtain ⟨f2, A2, F2, h2⟩ := hJ2
            refine zJ_aload_n dX5_readProduct_83 rfl ?_
            refine zJ_iload dX5_readProduct_84 rfl ?_
            refine zP_ecallVv [_] _ lv_X5_64 (k_emit (d := d - 1) hl (by omega) hs h2 hL (fun c a z => by simp only [pbind_inr] at z; obtain ⟨y, b, e, z⟩ := pbind_ok z; cases z; have p := pL_ok e (by have := tX_le t1; omega); simp only [List.length_append]; omega)) (zSt_ob hs 25 5 rfl) rfl (by omega) (Nat.le_of_ble_eq_true rfl) rfl dX5_readProduct_86 (fun J3 hJ3 => ?_)
            refine zJ_iinc1 dX5_readProduct_89 rfl (by decide) ?_
            refine zJ_goto 8 dX5_readProduct_92 (by decide) ?_
            refine zJ_back (zle_r (zle_r (zle_r (zle_r (zle_n zle_0))))) rfl (ih (by omega) R (i + 1) J3 A2 F2 _ (fL_trans f1 (fL_trans f2 hJ3.1)) hJ3.2 ?_ ?_)
            · intro c4 a4 z
              simp only [pbind_assoc, pbind_inr] at z
              obtain ⟨y, b, e, z⟩ := pbind_ok z
              cases z
              have p := (pL_ok e (by have := tX_le t1; omega)).2.2 (by decide)
              refine ⟨by simp only [List.length_append, List.length_singleton]; omega, fun y9 => hi2 ?_⟩
              rw [e]
              simp only [pbind]
              rw [y9]
            · rw [← hR]
              simp only [pbind_assoc, pbind_inr, List.append_assoc]
          refine zJ_iload_n dX5_readProduct_8 rfl ?_
          refine zJ_sipush (v := nI 150) dX5_readProduct_9 rfl ?_
          refine zJ_icmp_ge 95 dX5_readProduct_12 (by decide) (fun c12 => absurd c12 (nI_ge (by omega) (by omega))) (fun _ => ?_)
          refine zJ_aload_n dX5_readProduct_15 rfl ?_
          refine zP_callVi [] _ lv_X5_41 (k_failed (d := d - 1) hl (by omega) hs ht) (zSt_ob hs 1 10 rfl) rfl (by omega) (Nat.le_of_ble_eq_true rfl) rfl dX5_readProduct_16 ?_
          refine zJ_if_ne 95 dX5_readProduct_19 (by decide) (fun c19 => absurd rfl c19) (fun _ => ?_)
          refine zJ_aload_n dX5_readProduct_22 rfl ?_
          refine zJ_bipush (v := nI 42) dX5_readProduct_23 rfl ?_
          refine zP_ecallVi [_] _ lv_X5_60 (k_takes (c := 42) (d := d - 1) hl (by omega) hs ht (by omega)) (zSt_ob hs 1 10 rfl) rfl (by omega) (Nat.le_of_ble_eq_true rfl) rfl dX5_readProduct_25 (fun x1 J1 hx1 => ?_)
          obtain ⟨rfl, g1, t1⟩ := hx1
          refine zJ_if_eq 37 dX5_readProduct_28 (by decide) (fun c28 => ?_) (fun c28 => ?_)
          · replace c28 := zb0.mp c28
            rw [c28] at t1
            replace t1 : tX J1 bs L (sk bs L A) (sk bs L A) none := t1
            refine zJ_aload_n dX5_readProduct_37 rfl ?_
            refine zJ_bipush (v := nI 47) dX5_readProduct_38 rfl ?_
            refine zP_ecallVi [_] _ lv_X5_60 (k_takes (c := 47) (d := d - 1) hl (by omega) hs t1 (by omega)) (zSt_ob hs 1 10 rfl) rfl (by omega) (Nat.le_of_ble_eq_true rfl) rfl dX5_readProduct_40 (fun x2 J2 hx2 => ?_)
            rw [sk_sk] at hx2
            obtain ⟨rfl, g2, t2⟩ := hx2
            refine zJ_if_eq 52 dX5_readProduct_43 (by decide) (fun c43 => ?_) (fun c43 => ?_)
            · replace c43 := zb0.mp c43
              rw [c43] at t2
              replace t2 : tX J2 bs L (sk bs L A) (sk bs L A) none := t2
              refine zJ_aload_n dX5_readProduct_52 rfl ?_
              refine zJ_bipush (v := nI 37) dX5_readProduct_53 rfl ?_
              refine zP_ecallVi [_] _ lv_X5_60 (k_takes (c := 37) (d := d - 1) hl (by omega) hs t2 (by omega)) (zSt_ob hs 1 10 rfl) rfl (by omega) (Nat.le_of_ble_eq_true rfl) rfl dX5_readProduct_55 (fun x3 J3 hx3 => ?_)
              rw [sk_sk] at hx3
              obtain ⟨rfl, g3, t3⟩ := hx3
              refine zJ_if_eq 67 dX5_readProduct_58 (by decide) (fun c58 => ?_) (fun c58 => ?_)
              · replace c58 := zb0.mp c58
                refine zJ_iconst (v := -1) dX5_readProduct_67 rfl ?_
                rw [c58] at t3
                replace t3 : tX J3 bs L (sk bs L A) (sk bs L A) none := t3
                have hp : pL bs L (k + 1) 3 o A = .inr ([], sk bs L A) := by rw [pL]; simp [c28, c43, c58]
                rw [hp] at hR
                simp only [pbind_inr, List.append_nil] at hR
                subst hR
                refine zJ_istore dX5_readProduct_68 (Nat.le_of_ble_eq_true rfl) (by decide) ?_
                refine zJ_iload dX5_readProduct_70 rfl ?_
                refine zJ_iconst (v := -1) dX5_readProduct_72 rfl ?_
                refine zJ_icmp_ne 77 dX5_readProduct_73 (by decide) (fun c73 => absurd rfl c73) (fun _ => ?_)
                refine zJ_vret rfl dX5_readProduct_76 ?_
                exact ⟨rfl, J3, rfl, fL_trans hf (fL_fT (fT_trans (fT_trans g1 g2) g3)), _, _, lOk_needs t3 (lw_fT hw (fT_trans (fT_trans g1 g2) g3)) (by omega) (by omega)⟩
              · replace c58 := zb1.mp c58
                refine zJ_sipush (v := nI 2004) dX5_readProduct_61 rfl ?_
                refine zJ_goto 68 dX5_readProduct_64 (by decide) ?_
                rw [c58] at t3
                exact hst 2004 J3 (by omega) (fL_trans hf (fL_fT (fT_trans (fT_trans (g1) g2) g3))) (lw_fT hw (fT_trans (fT_trans (g1) g2) g3)) t3 (by rw [pL]; simp [c28, c43, c58])
            · replace c43 := zb1.mp c43
              refine zJ_sipush (v := nI 2003) dX5_readProduct_46 rfl ?_
              refine zJ_goto 68 dX5_readProduct_49 (by decide) ?_
              rw [c43] at t2
              exact hst 2003 J2 (by omega) (fL_trans hf (fL_fT (fT_trans (g1) g2))) (lw_fT hw (fT_trans (g1) g2)) t2 (by rw [pL]; simp [c28, c43])
          · replace c28 := zb1.mp c28
            refine zJ_sipush (v := nI 2002) dX5_readProduct_31 rfl ?_
            refine zJ_goto 68 dX5_readProduct_34 (by decide) ?_
            rw [c28] at t1
            exact hst 2002 J1 (by omega) (fL_trans hf (fL_fT (g1))) (lw_fT hw (g1)) t1 (by rw [pL]; simp [c28])
    obtain ⟨e1, hw, hcs⟩ := h.2.2 cs a rfl
    subst e1
    have hr1 := hr cs A rfl
    have hp : pL bs L (f + 1) 2 o A = pbind (pL bs L f 4 o A) fun c A => pbind (pL bs L f 3 o A) fun c' A => .inr (c ++ c', A) := by rw [pL]; simp
    rw [hp] at hr1
    have hle := tX_le h.1
    refine zJ_aload_n dX5_readProduct_0 rfl ?_
    refine zJ_aload_n dX5_readProduct_1 rfl ?_
    refine zJ_iload_n dX5_readProduct_2 rfl ?_
    refine zP_ecallVv [_, _] _ lv_X5_68 (hU f (Nat.le_refl _) o (d - 1) I bs L A F _ ho (by omega) hL h (fun c a z => by cases z; exact fun y => hr1 (by rw [y]; rfl))) (zSt_ob hs 25 5 rfl) rfl (by omega) (Nat.le_of_ble_eq_true rfl) rfl dX5_readProduct_3 (fun J1 hJ1 => ?_)
    obtain ⟨f1, A1, F1, h1⟩ := hJ1
    refine zJ_iconst (v := nI 0) dX5_readProduct_6 rfl ?_
    refine zJ_istore_m 3 dX5_readProduct_7 rfl (Nat.le_of_ble_eq_true rfl) (by decide) ?_
    refine loop f (Nat.le_refl _) _ 0 J1 A1 F1 _ f1 h1 ?_ ?_
    · intro c a z
      simp only [pbind_inr] at z
      obtain ⟨y, b, e, z⟩ := pbind_ok z
      cases z
      have p := (pL_ok e hle.1).2.2 (by decide)
      refine ⟨by simp only [List.length_append]; omega, fun y9 => hr1 ?_⟩
      rw [e]
      simp only [pbind]
      rw [y9]
    · rw [pbind_inr, pbind_inr, hp]
      simp only [pbind_assoc, pbind_inr, List.append_assoc]
set_option maxHeartbeats 1000000 in
theorem c_sum (hl : l.stackTraces = false) (hs : zSt g) {f : Nat} (hU : ∀ k, k ≤ f → cLaw l Xi g mX5_readProduct 8 2 k) : cLaw l Xi g mX5_readSum 9 0 (f + 1) := by
  intro o d I bs L A F r ho hd hL h hr
  cases r with
  | inl q => exact k_sumF hl hs (by omega) h
  | inr q =>
    obtain ⟨cs, a⟩ := q
    refine zC_of hl rfl rfl rfl (Nat.le_of_ble_eq_true rfl) (zav_r (zSt_ob hs 25 5 rfl).1 (zav_r (zSt_ob hs 1 10 rfl).1 (zav_i zav_0))) ?_
    have loop : ∀ k, k ≤ f → ∀ (R : PR (List Int32)) (i : Nat) (J : zI) (A F : Nat) (r : PR (List Int32)), fL I J → lOk J bs L A F r → (∀ cs a, r = .inr (cs, a) → i < cs.length ∧ pL bs L k 1 o a ≠ .inl (0, 0)) → (pbind r fun cs A => pbind (pL bs L k 1 o A) fun c A => .inr (cs ++ c, A)) = R → zJ l Xi mX5_readSum d 0 0 8 [some (.ref 25), some (.ref 1), some (.int (nI o)), some (.int (nI i)), none] [] (J, g) (fun r' h' => r' = .inl none ∧ ∃ J', h' = (J', g) ∧ fL I J' ∧ ∃ A' F', lOk J' bs L A' F' R) := by
      intro k
      induction k with
      | zero =>
        intro _ R i J A F r hf hk hi hR
        cases r with
        | inr q => exact absurd rfl (hi q.1 q.2 rfl).2
        | inl q =>
          have hR' : .inl q = R := hR
          subst hR'
          refine zJ_iload_n dX5_readSum_8 rfl ?_
          refine zJ_sipush (v := nI 150) dX5_readSum_9 rfl ?_
          refine zJ_icmp_ge 80 dX5_readSum_12 (by decide) (fun c12 => ?_) (fun c12 => ?_)
          · skip
            refine zJ_vret rfl dX5_readSum_80 ?_
            exact ⟨rfl, J, rfl, hf, A, F, hk⟩
          · skip
            refine zJ_aload_n dX5_readSum_15 rfl ?_
            refine zP_callVi [] _ lv_X5_41 (k_failed (d := d - 1) hl (by omega) hs hk.1) (zSt_ob hs 1 10 rfl) rfl (by omega) (Nat.le_of_ble_eq_true rfl) rfl dX5_readSum_16 ?_
            refine zJ_if_ne 80 dX5_readSum_19 (by decide) (fun _ => ?_) (fun c19 => absurd c19 (show ¬ ((1 : Int32) = 0) by decide))
            refine zJ_vret rfl dX5_readSum_80 ?_
            exact ⟨rfl, J, rfl, hf, A, F, hk⟩
      | succ k ih =>
        intro hkf R i J A F r hf hk hi hR
        cases r with
        | inl q =>
          have hR' : .inl q = R := hR
          subst hR'
          refine zJ_iload_n dX5_readSum_8 rfl ?_
          refine zJ_sipush (v := nI 150) dX5_readSum_9 rfl ?_
          refine zJ_icmp_ge 80 dX5_readSum_12 (by decide) (fun c12 => ?_) (fun c12 => ?_)
          · skip
            refine zJ_vret rfl dX5_readSum_80 ?_
            exact ⟨rfl, J, rfl, hf, A, F, hk⟩
          · skip
            refine zJ_aload_n dX5_readSum_15 rfl ?_
            refine zP_callVi [] _ lv_X5_41 (k_failed (d := d - 1) hl (by omega) hs hk.1) (zSt_ob hs 1 10 rfl) rfl (by omega) (Nat.le_of_ble_eq_true rfl) rfl dX5_readSum_16 ?_
            refine zJ_if_ne 80 dX5_readSum_19 (by decide) (fun _ => ?_) (fun c19 => absurd c19 (show ¬ ((1 : Int32) = 0) by decide))
            refine zJ_vret rfl dX5_readSum_80 ?_
            exact ⟨rfl, J, rfl, hf, A, F, hk⟩
        | inr q =>
          obtain ⟨cs, a⟩ := q
          obtain ⟨e1, hw, hcs⟩ := hk.2.2 cs a rfl
          subst e1
          have ht : tX J bs L A F none := hk.1
          have hle := tX_le ht
          obtain ⟨hi1, hi2⟩ := hi cs A rfl
          have hg : A ≤ sk bs L A := sp_g
          have hl2 : sk bs L A ≤ L := sp_l hle.1
          simp only [pbind_inr] at hR
          have hst : ∀ (c : Nat) (J1 : zI), c < 3000 → fL I J1 → lw J1 cs → tX J1 bs L (sk bs L A + 1) (sk bs L A) none → pL bs L (k + 1) 1 o A = (pbind (pL bs L k 2 o (sk bs L A + 1)) fun c1 A => pbind (pL bs L k 1 o A) fun c' A => .inr (c1 ++ [nI c] ++ c', A)) → zJ l Xi mX5_readSum d 0 0 53 [some (.ref 25), some (.ref 1), some (.int (nI o)), some (.int (nI i)), none] [.int (nI c)] (J1, g) (fun r' h' => r' = .inl none ∧ ∃ J', h' = (J', g) ∧ fL I J' ∧ ∃ A' F', lOk J' bs L A' F' R) := by
            intro c J1 hc f1 w1 t1 hp
            rw [hp] at hi2 hR
            have lk1 : lOk J1 bs L (sk bs L A + 1) (sk bs L A) (.inr (cs, sk bs L A + 1)) := lOk_needs t1 w1 (by omega) (by omega)
            refine zJ_istore dX5_readSum_53 (Nat.le_of_ble_eq_true rfl) (by decide) ?_
            refine zJ_iload dX5_readSum_55 rfl ?_
            refine zJ_iconst (v := -1) dX5_readSum_57 rfl ?_
            refine zJ_icmp_ne 62 dX5_readSum_58 (by decide) (fun _ => ?_) (fun c58 => absurd c58 (nI_ne1 (by omega)))
            refine zJ_aload_n dX5_readSum_62 rfl ?_
            refine zJ_aload_n dX5_readSum_63 rfl ?_
            refine zJ_iload_n dX5_readSum_64 rfl ?_
            refine zP_ecallVv [_, _] _ lv_X5_57 (hU k (by omega) o (d - 1) J1 bs L _ _ _ ho (by omega) hL lk1 (fun c a z => by cases z; exact fun y => hi2 (by rw [y]; rfl))) (zSt_ob hs 25 5 rfl) rfl (by omega) (Nat.le_of_ble_eq_true rfl) rfl dX5_readSum_65 (fun J2 hJ2 => ?_)
            obtain ⟨f2, A2, F2, h2⟩ := hJ2
            refine zJ_aload_n dX5_readSum_68 rfl ?_
            refine zJ_iload dX5_readSum_69 rfl ?_
            refine zP_ecallVv [_] _ lv_X5_64 (k_emit (d := d - 1) hl (by omega) hs h2 hL (fun c a z => by simp only [pbind_inr] at z; obtain ⟨y, b, e, z⟩ := pbind_ok z; cases z; have p := pL_ok e (by have := tX_le t1; omega); simp only [List.length_append]; omega)) (zSt_ob hs 25 5 rfl) rfl (by omega) (Nat.le_of_ble_eq_true rfl) rfl dX5_readSum_71 (fun J3 hJ3 => ?_)
            refine zJ_iinc1 dX5_readSum_74 rfl (by decide) ?_
            refine zJ_goto 8 dX5_readSum_77 (by decide) ?_
            refine zJ_back (zle_r (zle_r (zle_r (zle_r (zle_n zle_0))))) rfl (ih (by omega) R (i + 1) J3 A2 F2 _ (fL_trans f1 (fL_trans f2 hJ3.1)) hJ3.2 ?_ ?_)
            · intro c4 a4 z
              simp only [pbind_assoc, pbind_inr] at z
              obtain ⟨y, b, e, z⟩ := pbind_ok z
              cases z
              have p := (pL_ok e (by have := tX_le t1; omega)).2.2 (by decide)
              refine ⟨by simp only [List.length_append, List.length_singleton]; omega, fun y9 => hi2 ?_⟩
              rw [e]
              simp only [pbind]
              rw [y9]
            · rw [← hR]
              simp only [pbind_assoc, pbind_inr, List.append_assoc]
          refine zJ_iload_n dX5_readSum_8 rfl ?_
          refine zJ_sipush (v := nI 150) dX5_readSum_9 rfl ?_
          refine zJ_icmp_ge 80 dX5_readSum_12 (by decide) (fun c12 => absurd c12 (nI_ge (by omega) (by omega))) (fun _ => ?_)
          refine zJ_aload_n dX5_readSum_15 rfl ?_
          refine zP_callVi [] _ lv_X5_41 (k_failed (d := d - 1) hl (by omega) hs ht) (zSt_ob hs 1 10 rfl) rfl (by omega) (Nat.le_of_ble_eq_true rfl) rfl dX5_readSum_16 ?_
          refine zJ_if_ne 80 dX5_readSum_19 (by decide) (fun c19 => absurd rfl c19) (fun _ => ?_)
          refine zJ_aload_n dX5_readSum_22 rfl ?_
          refine zJ_bipush (v := nI 43) dX5_readSum_23 rfl ?_
          refine zP_ecallVi [_] _ lv_X5_60 (k_takes (c := 43) (d := d - 1) hl (by omega) hs ht (by omega)) (zSt_ob hs 1 10 rfl) rfl (by omega) (Nat.le_of_ble_eq_true rfl) rfl dX5_readSum_25 (fun x1 J1 hx1 => ?_)
          obtain ⟨rfl, g1, t1⟩ := hx1
          refine zJ_if_eq 37 dX5_readSum_28 (by decide) (fun c28 => ?_) (fun c28 => ?_)
          · replace c28 := zb0.mp c28
            rw [c28] at t1
            replace t1 : tX J1 bs L (sk bs L A) (sk bs L A) none := t1
            refine zJ_aload_n dX5_readSum_37 rfl ?_
            refine zJ_bipush (v := nI 45) dX5_readSum_38 rfl ?_
            refine zP_ecallVi [_] _ lv_X5_60 (k_takes (c := 45) (d := d - 1) hl (by omega) hs t1 (by omega)) (zSt_ob hs 1 10 rfl) rfl (by omega) (Nat.le_of_ble_eq_true rfl) rfl dX5_readSum_40 (fun x2 J2 hx2 => ?_)
            rw [sk_sk] at hx2
            obtain ⟨rfl, g2, t2⟩ := hx2
            refine zJ_if_eq 52 dX5_readSum_43 (by decide) (fun c43 => ?_) (fun c43 => ?_)
            · replace c43 := zb0.mp c43
              refine zJ_iconst (v := -1) dX5_readSum_52 rfl ?_
              rw [c43] at t2
              replace t2 : tX J2 bs L (sk bs L A) (sk bs L A) none := t2
              have hp : pL bs L (k + 1) 1 o A = .inr ([], sk bs L A) := by rw [pL]; simp [c28, c43]
              rw [hp] at hR
              simp only [pbind_inr, List.append_nil] at hR
              subst hR
              refine zJ_istore dX5_readSum_53 (Nat.le_of_ble_eq_true rfl) (by decide) ?_
              refine zJ_iload dX5_readSum_55 rfl ?_
              refine zJ_iconst (v := -1) dX5_readSum_57 rfl ?_
              refine zJ_icmp_ne 62 dX5_readSum_58 (by decide) (fun c58 => absurd rfl c58) (fun _ => ?_)
              refine zJ_vret rfl dX5_readSum_61 ?_
              exact ⟨rfl, J2, rfl, fL_trans hf (fL_fT (fT_trans g1 g2)), _, _, lOk_needs t2 (lw_fT hw (fT_trans g1 g2)) (by omega) (by omega)⟩
            · replace c43 := zb1.mp c43
              refine zJ_sipush (v := nI 2001) dX5_readSum_46 rfl ?_
              refine zJ_goto 53 dX5_readSum_49 (by decide) ?_
              rw [c43] at t2
              exact hst 2001 J2 (by omega) (fL_trans hf (fL_fT (fT_trans (g1) g2))) (lw_fT hw (fT_trans (g1) g2)) t2 (by rw [pL]; simp [c28, c43])
          · replace c28 := zb1.mp c28
            refine zJ_sipush (v := nI 2000) dX5_readSum_31 rfl ?_
            refine zJ_goto 53 dX5_readSum_34 (by decide) ?_
            rw [c28] at t1
            exact hst 2000 J1 (by omega) (fL_trans hf (fL_fT (g1))) (lw_fT hw (g1)) t1 (by rw [pL]; simp [c28])
    obtain ⟨e1, hw, hcs⟩ := h.2.2 cs a rfl
    subst e1
    have hr1 := hr cs A rfl
    have hp : pL bs L (f + 1) 0 o A = pbind (pL bs L f 2 o A) fun c A => pbind (pL bs L f 1 o A) fun c' A => .inr (c ++ c', A) := by rw [pL]; simp
    rw [hp] at hr1
    have hle := tX_le h.1
    refine zJ_aload_n dX5_readSum_0 rfl ?_
    refine zJ_aload_n dX5_readSum_1 rfl ?_
    refine zJ_iload_n dX5_readSum_2 rfl ?_
    refine zP_ecallVv [_, _] _ lv_X5_57 (hU f (Nat.le_refl _) o (d - 1) I bs L A F _ ho (by omega) hL h (fun c a z => by cases z; exact fun y => hr1 (by rw [y]; rfl))) (zSt_ob hs 25 5 rfl) rfl (by omega) (Nat.le_of_ble_eq_true rfl) rfl dX5_readSum_3 (fun J1 hJ1 => ?_)
    obtain ⟨f1, A1, F1, h1⟩ := hJ1
    refine zJ_iconst (v := nI 0) dX5_readSum_6 rfl ?_
    refine zJ_istore_m 3 dX5_readSum_7 rfl (Nat.le_of_ble_eq_true rfl) (by decide) ?_
    refine loop f (Nat.le_refl _) _ 0 J1 A1 F1 _ f1 h1 ?_ ?_
    · intro c a z
      simp only [pbind_inr] at z
      obtain ⟨y, b, e, z⟩ := pbind_ok z
      cases z
      have p := (pL_ok e hle.1).2.2 (by decide)
      refine ⟨by simp only [List.length_append]; omega, fun y9 => hr1 ?_⟩
      rw [e]
      simp only [pbind]
      rw [y9]
    · rw [pbind_inr, pbind_inr, hp]
      simp only [pbind_assoc, pbind_inr, List.append_assoc]
theorem c_law (hl : l.stackTraces = false) (hs : zSt g) : ∀ f, cLaw l Xi g mX5_readSum 9 0 f ∧ cLaw l Xi g mX5_readProduct 8 2 f ∧ cLaw l Xi g mX5_readUnit 7 4 f := by
  intro f
  induction f using Nat.strongRecOn with
  | _ f ih =>
    cases f with
    | zero =>
      refine ⟨?_, ?_, ?_⟩
      · intro o d I bs L A F r ho hd hL h hr
        cases r with
        | inl q => exact k_sumF hl hs (by omega) h
        | inr q => exact absurd rfl (hr q.1 q.2 rfl)
      · intro o d I bs L A F r ho hd hL h hr
        cases r with
        | inl q => exact k_prodF hl hs (by omega) h
        | inr q => exact absurd rfl (hr q.1 q.2 rfl)
      · intro o d I bs L A F r ho hd hL h hr
        cases r with
        | inl q => exact k_unitF hl hs (by omega) h
        | inr q => exact absurd rfl (hr q.1 q.2 rfl)
    | succ f => exact ⟨c_sum hl hs (fun k hk => (ih k (by omega)).2.1), c_prod hl hs (fun k hk => (ih k (by omega)).2.2), c_unit hl hs (ih f (by omega)).1⟩
def pLaw (bs : Nat → Nat) (L : Nat) : PR (List Int32) := pbind (pL bs L 2000 0 0 0) fun c A => if L ≤ sk bs L A then .inr (c, sk bs L A) else .inl (1, sk bs L A)
theorem k_lawRead (hl : l.stackTraces = false) (hd : 40 ≤ d) (hs : zSt g) {bs : Nat → Nat} {L F : Nat} (ht : tX I bs L 0 F none) (hL : L ≤ 150) : zEv l Xi mX5_read d [.ref 25, .ref 1] I g (fun J => fL I J ∧ ∃ A' F', lOk J bs L A' F' (pLaw bs L)) := by
  refine zC_of hl rfl rfl rfl (Nat.le_of_ble_eq_true rfl) (zav_r (zSt_ob hs 25 5 rfl).1 (zav_r (zSt_ob hs 1 10 rfl).1 zav_0)) ?_
  have hlw : lOk (zup I 25 3 (nI 0)) bs L 0 F (.inr ([], 0)) := lOk_needs (tX_of ht (zup_row (by decide)) (zup_row (by decide))) ⟨by rw [zup_same, upd_at]; rfl, fun i hi => absurd hi (Nat.not_lt_zero _)⟩ (Nat.le_refl _) (by decide)
  have hfu : pL bs L 2000 0 0 0 ≠ .inl (0, 0) := pL_fuel (Nat.zero_le _) (by unfold bndL; simp; omega)
  refine zJ_aload_n dX5_read_0 rfl ?_
  refine zJ_iconst (v := nI 0) dX5_read_1 rfl ?_
  refine zP_puti lf_X5_33 (zSt_ob hs 25 5 rfl) rfl dX5_read_2 ?_
  refine zJ_aload_n dX5_read_5 rfl ?_
  refine zJ_aload_n dX5_read_6 rfl ?_
  refine zJ_iconst (v := nI 0) dX5_read_7 rfl ?_
  refine zP_ecallVv [_, _] _ lv_X5_37 ((c_law hl hs 2000).1 0 (d - 1) _ bs L 0 F _ (by omega) (by omega) hL hlw (fun c a z => by cases z; exact hfu)) (zSt_ob hs 25 5 rfl) rfl (by omega) (Nat.le_of_ble_eq_true rfl) rfl dX5_read_8 (fun J hJ => ?_)
  obtain ⟨f1, A1, F1, h1⟩ := hJ
  simp only [pbind_inr, List.nil_append] at h1
  refine zJ_aload_n dX5_read_11 rfl ?_
  refine zP_callVi [] _ lv_X5_41 (k_failed (d := d - 1) hl (by omega) hs h1.1) (zSt_ob hs 1 10 rfl) rfl (by omega) (Nat.le_of_ble_eq_true rfl) rfl dX5_read_12 ?_
  refine zJ_if_ne 34 dX5_read_15 (by decide) (fun c15 => ?_) (fun c15 => ?_)
  · replace c15 := zb1.mp c15
    refine zJ_vret rfl dX5_read_34 ?_
    have fI : fL I J := fun a p q r => by rw [f1 a p q r, zup_row q]
    obtain ⟨q, hq⟩ := toE_no c15
    refine ⟨rfl, J, rfl, fI, A1, F1, lOk_eq h1 ?_⟩
    unfold pLaw
    cases e : pL bs L 2000 0 0 0 with
    | inl w => rfl
    | inr w => rw [e] at hq; cases hq
  · replace c15 := zb0.mp c15
    have fI : fL I J := fun a p q r => by rw [f1 a p q r, zup_row q]
    cases e : pL bs L 2000 0 0 0 with
    | inl w => rw [e] at c15; cases c15
    | inr w =>
      have hP : pLaw bs L = if L ≤ sk bs L w.2 then .inr (w.1, sk bs L w.2) else .inl (1, sk bs L w.2) := by unfold pLaw; rw [e]; rfl
      rw [hP]
      rw [e] at h1
      obtain ⟨b1, b2, b3⟩ := h1.2.2 w.1 w.2 rfl
      subst b1
      have ht1 : tX J bs L w.2 F1 none := h1.1
      have hle := tX_le ht1
      have hg : w.2 ≤ sk bs L w.2 := sp_g
      refine zJ_aload_n dX5_read_18 rfl ?_
      refine zP_ecallVi [] _ lv_X5_47 (k_ended (d := d - 1) hl (by omega) hs ht1) (zSt_ob hs 1 10 rfl) rfl (by omega) (Nat.le_of_ble_eq_true rfl) rfl dX5_read_19 (fun x K hx => ?_)
      obtain ⟨rfl, f2, t2⟩ := hx
      refine zJ_if_ne 34 dX5_read_22 (by decide) (fun c22 => ?_) (fun c22 => ?_)
      · replace c22 := zb1.mp c22
        refine zJ_vret rfl dX5_read_34 ?_
        rw [if_pos (of_decide_eq_true c22)]
        exact ⟨rfl, K, rfl, fL_trans fI (fL_fT f2), _, _, lOk_needs t2 (lw_fT b2 f2) (by omega) (by omega)⟩
      · replace c22 := zb0.mp c22
        have lk2 : lOk K bs L (sk bs L w.2) (sk bs L w.2) (.inr (w.1, sk bs L w.2)) := lOk_needs t2 (lw_fT b2 f2) (by omega) (by omega)
        refine zJ_aload_n dX5_read_25 rfl ?_
        refine zJ_iconst (v := nI 1) dX5_read_26 rfl ?_
        refine zJ_aload_n dX5_read_27 rfl ?_
        refine zP_geti lf_X5_50 (zSt_ob hs 1 10 rfl) rfl dX5_read_28 ?_
        refine zP_ecallVv [_, _] _ lv_X5_53 (k_failL (w := sk bs L w.2) (d := d - 1) hl (by omega) hs lk2 (by omega) (by omega) (tX_fr t2)) (zSt_ob hs 1 10 rfl) rfl (by omega) (Nat.le_of_ble_eq_true rfl) rfl dX5_read_31 (fun K2 hK2 => ?_)
        refine zJ_vret rfl dX5_read_34 ?_
        rw [if_neg (of_decide_eq_false c22)]
        exact ⟨rfl, K2, rfl, fL_trans fI (fL_trans (fL_fT f2) hK2.1), _, _, hK2.2⟩
end ZLawU
