/-! ===== Board: its text read ===== -/
section ZBread
variable {l : Launch} {Xi : zXi} {d : Nat} {I : zI} {g : zG}
theorem pOk_bad {α β : Type} {bs : Nat → Nat} {L A F : Nat} {r : PR α} {r' : PR β} {f : α → Nat → PR β} {P : α → Prop} {Q : β → Prop} (h : pOk I bs L A F r P) (e : (toE r).isSome = true) (e' : r' = pbind r f) : pOk I bs L A F r' Q := by
  subst e'
  obtain ⟨q, rfl⟩ := toE_no e
  exact ⟨h.1, fun x a z => by cases z⟩
theorem cRb_wl {p : Nat} {r : zRb} (h : cRb I 12 r) (hp : p < 64) : cRb (zup I 19 p 1) 12 (r.1, rcr r, rlm r, rpc r, rpn r, rwd r, un (rwl r) p true) := by
  obtain ⟨h1, h2, h3, h4, h5, h6, h7⟩ := h
  refine ⟨by rw [zup_row (by decide)]; exact h1, fun n hn => by rw [zup_row (by decide), zup_row (by decide)]; exact h2 n hn, fun n hn => by rw [zup_row (by decide)]; exact h3 n hn, fun n i hn hi => by rw [zup_row (by decide)]; exact h4 n i hn hi, fun q hq => by rw [zup_row (by decide)]; exact h5 q hq, fun q hq => ?_, fun q hq => by rw [zup_row (by decide)]; exact h7 q hq⟩
  rw [zup_same]
  show upd _ _ _ _ = if un (rwl r) p true q then 1 else 0
  by_cases z : q = p
  · rw [z, upd_at, un_at]; rfl
  · rw [upd_ne z, un_ne z]; exact h6 q hq
theorem cRb_wd {p v : Nat} {r : zRb} (h : cRb I 12 r) (hp : p < 64) : cRb (zup I 18 p (nI v)) 12 (r.1, rcr r, rlm r, rpc r, rpn r, un (rwd r) p v, rwl r) := by
  obtain ⟨h1, h2, h3, h4, h5, h6, h7⟩ := h
  refine ⟨by rw [zup_row (by decide)]; exact h1, fun n hn => by rw [zup_row (by decide), zup_row (by decide)]; exact h2 n hn, fun n hn => by rw [zup_row (by decide)]; exact h3 n hn, fun n i hn hi => by rw [zup_row (by decide)]; exact h4 n i hn hi, fun q hq => ?_, fun q hq => by rw [zup_row (by decide)]; exact h6 q hq, fun q hq => by rw [zup_row (by decide)]; exact h7 q hq⟩
  rw [zup_same]
  show upd _ _ _ _ = nI (un (rwd r) p v q)
  by_cases z : q = p
  · rw [z, upd_at, un_at]
  · rw [upd_ne z, un_ne z]; exact h5 q hq
theorem cRb_pn {n p : Nat} {r : zRb} (h : cRb I 12 r) (hok : rbOk r) (hn : n < 6) (hc : rpc r n < 4) : cRb (zup (zup I 16 (n * 4 + rpc r n) (nI p)) 15 n (nI (rpc r n + 1))) 12 (r.1, rcr r, rlm r, un (rpc r) n (rpc r n + 1), un (rpn r) n (un (rpn r n) (rpc r n) p), rwd r, rwl r) := by
  obtain ⟨h1, h2, h3, h4, h5, h6, h7⟩ := h
  have k : ∀ a, a ≠ 15 → a ≠ 16 → zup (zup I 16 (n * 4 + rpc r n) (nI p)) 15 n (nI (rpc r n + 1)) a = I a := fun a p q => by rw [zup_row p, zup_row q]
  refine ⟨by rw [k _ (by decide) (by decide)]; exact h1, fun m hm => by rw [k _ (by decide) (by decide), k _ (by decide) (by decide)]; exact h2 m hm, fun m hm => ?_, fun m i hm hi => ?_, fun q hq => by rw [k _ (by decide) (by decide)]; exact h5 q hq, fun q hq => by rw [k _ (by decide) (by decide)]; exact h6 q hq, fun q hq => by rw [k _ (by decide) (by decide)]; exact h7 q hq⟩
  · rw [show 12 + 3 = 15 from rfl, zup_same]
    show _ = nI (un (rpc r) n (rpc r n + 1) m)
    by_cases z : m = n
    · rw [z, upd_at, un_at]
    · rw [upd_ne z, un_ne z, zup_row (by decide)]; exact h3 m hm
  · rw [show 12 + 4 = 16 from rfl, zup_row (by decide), zup_same]
    have hi' : i < un (rpc r) n (rpc r n + 1) m := hi
    show _ = nI (un (rpn r) n (un (rpn r n) (rpc r n) p) m i)
    by_cases z : m = n
    · subst z
      rw [un_at] at hi' ⊢
      by_cases y : i = rpc r m
      · rw [y, upd_at, un_at]
      · rw [upd_ne (by omega), un_ne y]; exact h4 m i hm (by omega)
    · rw [un_ne z] at hi' ⊢
      have := (hok.2.1 m hm).1
      rw [upd_ne (by omega)]; exact h4 m i hm hi'
theorem k_readWall (hl : l.stackTraces = false) (hd : 4 ≤ d) (hs : zSt g) {bs : Nat → Nat} {L A F : Nat} {r : zRb} (ht : tX I bs L A F none) (hr : cRb I 12 r) (hok : rbOk r) : zEv l Xi mX0_readWall d [.ref 12, .ref 1] I g (fun J => fB 12 I J ∧ ∃ A' F', pOk J bs L A' F' (pBody bs L 1 r A) (fun r => cRb J 12 r ∧ rbOk r)) := by
  refine zC_of hl rfl rfl rfl (Nat.le_of_ble_eq_true rfl) (zav_r (zSt_ob hs 12 0 rfl).1 (zav_r (zSt_ob hs 1 10 rfl).1 zav_0)) ?_
  have hB : pBody bs L 1 r A = pbind (pbind (.inr ((), A)) fun x A => pbind (pPlace bs L A) fun y A => .inr ((x, y), A)) fun q A => .inr ((r.1, rcr r, rlm r, rpc r, rpn r, rwd r, un (rwl r) q.2 true), A) := by
    simp only [pBody, pbind_assoc, pbind_inr]; rfl
  refine zJ_aload_n dX0_readWall_0 rfl ?_
  refine zJ_aload_n dX0_readWall_1 rfl ?_
  refine zP_ecallVi [_] _ lv_X0_123 (k_readPlace (d := d - 1) hl (by omega) hs (pOk_0 ht)) (zSt_ob hs 12 0 rfl) rfl (by omega) (Nat.le_of_ble_eq_true rfl) rfl dX0_readWall_2 (fun x J hx => ?_)
  obtain ⟨hf, A', F', hp⟩ := hx
  refine zJ_istore_m 2 dX0_readWall_5 rfl (Nat.le_of_ble_eq_true rfl) (by decide) ?_
  refine zJ_aload_n dX0_readWall_6 rfl ?_
  refine zP_callVi [] _ lv_X0_61 (k_failedP (d := d - 1) hl (by omega) hs hp) (zSt_ob hs 1 10 rfl) rfl (by omega) (Nat.le_of_ble_eq_true rfl) rfl dX0_readWall_7 ?_
  refine zJ_if_ne 20 dX0_readWall_10 (by decide) (fun c10 => ?_) (fun c10 => ?_)
  · replace c10 := zb1.mp c10
    refine zJ_vret rfl dX0_readWall_20 ?_
    exact ⟨rfl, J, rfl, fB_fT hf, A', F', pOk_bad hp c10 hB⟩
  · replace c10 := zb0.mp c10
    refine zJ_aload_n dX0_readWall_13 rfl ?_
    refine zP_getr lf_X0_40 (zSt_ob hs 12 0 rfl) rfl (zSt_rf hs 12 10 19 rfl) dX0_readWall_14 ?_
    refine zJ_iload_n dX0_readWall_17 rfl ?_
    obtain ⟨q, hq, -, hx, hq64⟩ := toE_ok hp c10
    subst hx
    refine zJ_iconst (v := nI 1) dX0_readWall_18 rfl ?_
    refine zP_iast (zSt_ar hs 19 64 rfl) (by first | assumption | with_reducible exact vp_in_nI (by omega) (by omega) | (simp (disch := omega) only [nI_add, pk_mul, pk_sub, pk_div, pk_rem, nI_clamp]; with_reducible exact vp_in_nI (by omega) (by omega))) dX0_readWall_19 ?_
    refine zJ_vret rfl dX0_readWall_20 ?_
    rw [nI_clamp (by omega)]
    refine ⟨rfl, _, rfl, fB_zup (fB_fT hf) (by decide), A', F', pOk_map _ (pOk_zup hp (by decide)) hB (fun y hy => ?_)⟩
    have e : y.2 = q.2 := ((nI_eq (by omega) (by omega)).mp hy.2.1).symm
    rw [e]
    exact ⟨cRb_wl (cRb_fT hr (by decide) hf) hq64, hok⟩
theorem k_readWide (hl : l.stackTraces = false) (hd : 4 ≤ d) (hs : zSt g) {bs : Nat → Nat} {L A F : Nat} {r : zRb} (ht : tX I bs L A F none) (hr : cRb I 12 r) (hok : rbOk r) : zEv l Xi mX0_readWide d [.ref 12, .ref 1] I g (fun J => fB 12 I J ∧ ∃ A' F', pOk J bs L A' F' (pBody bs L 2 r A) (fun r => cRb J 12 r ∧ rbOk r)) := by
  refine zC_of hl rfl rfl rfl (Nat.le_of_ble_eq_true rfl) (zav_r (zSt_ob hs 12 0 rfl).1 (zav_r (zSt_ob hs 1 10 rfl).1 zav_0)) ?_
  have hB : pBody bs L 2 r A = pbind (pbind (pbind (.inr ((), A)) fun x A => pbind (pPlace bs L A) fun y A => .inr ((x, y), A)) fun x A => pbind (pNum bs L 1 4 A) fun y A => .inr ((x, y), A)) fun q A => .inr ((r.1, rcr r, rlm r, rpc r, rpn r, un (rwd r) q.1.2 q.2, rwl r), A) := by
    simp only [pBody, pbind_assoc, pbind_inr]; rfl
  refine zJ_aload_n dX0_readWide_0 rfl ?_
  refine zJ_aload_n dX0_readWide_1 rfl ?_
  refine zP_ecallVi [_] _ lv_X0_123 (k_readPlace (d := d - 1) hl (by omega) hs (pOk_0 ht)) (zSt_ob hs 12 0 rfl) rfl (by omega) (Nat.le_of_ble_eq_true rfl) rfl dX0_readWide_2 (fun x J0 hx => ?_)
  obtain ⟨hf, A', F', hp0⟩ := hx
  refine zJ_istore_m 2 dX0_readWide_5 rfl (Nat.le_of_ble_eq_true rfl) (by decide) ?_
  refine zJ_aload_n dX0_readWide_6 rfl ?_
  refine zJ_iconst (v := nI 1) dX0_readWide_7 rfl ?_
  refine zJ_iconst (v := nI 3) dX0_readWide_8 rfl ?_
  refine zP_ecallVi [_, _] _ lv_X0_105 (k_numP (lo := 1) (hi := 4) (d := d - 1) hl (by omega) hs hp0 (by omega) (by omega) rfl (nI_pred 3).symm) (zSt_ob hs 1 10 rfl) rfl (by omega) (Nat.le_of_ble_eq_true rfl) rfl dX0_readWide_9 (fun y J hy => ?_)
  obtain ⟨v, rfl, hv, hf2, hp⟩ := hy
  refine zJ_istore_m 3 dX0_readWide_12 rfl (Nat.le_of_ble_eq_true rfl) (by decide) ?_
  refine zJ_aload_n dX0_readWide_13 rfl ?_
  refine zP_callVi [] _ lv_X0_61 (k_failedP (d := d - 1) hl (by omega) hs hp) (zSt_ob hs 1 10 rfl) rfl (by omega) (Nat.le_of_ble_eq_true rfl) rfl dX0_readWide_14 ?_
  refine zJ_if_ne 27 dX0_readWide_17 (by decide) (fun c17 => ?_) (fun c17 => ?_)
  · replace c17 := zb1.mp c17
    refine zJ_vret rfl dX0_readWide_27 ?_
    exact ⟨rfl, J, rfl, fB_fT (fT_trans hf hf2), _, _, pOk_bad hp c17 hB⟩
  · replace c17 := zb0.mp c17
    refine zJ_aload_n dX0_readWide_20 rfl ?_
    refine zP_getr lf_X0_37 (zSt_ob hs 12 0 rfl) rfl (zSt_rf hs 12 9 18 rfl) dX0_readWide_21 ?_
    refine zJ_iload_n dX0_readWide_24 rfl ?_
    obtain ⟨q, hq, ⟨-, hx, hq64⟩, hv1, hv2, hv3⟩ := toE_ok hp c17
    subst hx
    refine zJ_iload_n dX0_readWide_25 rfl ?_
    refine zP_iast (zSt_ar hs 18 64 rfl) (by first | assumption | with_reducible exact vp_in_nI (by omega) (by omega) | (simp (disch := omega) only [nI_add, pk_mul, pk_sub, pk_div, pk_rem, nI_clamp]; with_reducible exact vp_in_nI (by omega) (by omega))) dX0_readWide_26 ?_
    refine zJ_vret rfl dX0_readWide_27 ?_
    rw [nI_clamp (by omega)]
    refine ⟨rfl, _, rfl, fB_zup (fB_fT (fT_trans hf hf2)) (by decide), _, _, pOk_map _ (pOk_zup hp (by decide)) hB (fun y hy => ?_)⟩
    have e : y.1.2 = q.1.2 := ((nI_eq (by omega) (by omega)).mp hy.1.2.1).symm
    rw [e, hy.2.1]
    refine ⟨cRb_wd (cRb_fT hr (by decide) (fT_trans hf hf2)) hq64, hok.1, hok.2.1, hok.2.2.1, fun p hp => ?_, hok.2.2.2.2⟩
    show 1 ≤ un (rwd r) q.1.2 v p ∧ un (rwd r) q.1.2 v p ≤ 3
    by_cases z : p = q.1.2
    · rw [z, un_at]; omega
    · rw [un_ne z]; exact hok.2.2.2.1 p hp
theorem k_readPin (hl : l.stackTraces = false) (hd : 4 ≤ d) (hs : zSt g) {bs : Nat → Nat} {L A F : Nat} {r : zRb} (ht : tX I bs L A F none) (hr : cRb I 12 r) (hok : rbOk r) : zEv l Xi mX0_readPin d [.ref 12, .ref 1] I g (fun J => fB 12 I J ∧ ∃ A' F', pOk J bs L A' F' (pBody bs L 4 r A) (fun r => cRb J 12 r ∧ rbOk r)) := by
  refine zC_of hl rfl rfl rfl (Nat.le_of_ble_eq_true rfl) (zav_r (zSt_ob hs 12 0 rfl).1 (zav_r (zSt_ob hs 1 10 rfl).1 zav_0)) ?_
  have hN6 := hok.1.2.2.2.2.1
  have hB : pBody bs L 4 r A = pbind (pbind (.inr ((), A)) fun x A => pbind (pNum bs L 0 (rN r) A) fun y A => .inr ((x, y), A)) fun q A' => if 4 ≤ rpc r q.2 then .inl (3, sk bs L A) else pbind (pPlace bs L A') fun p A => .inr ((r.1, rcr r, rlm r, un (rpc r) q.2 (rpc r q.2 + 1), un (rpn r) q.2 (un (rpn r q.2) (rpc r q.2) p), rwd r, rwl r), A) := by
    simp only [pBody, pbind_assoc, pbind_inr]; rfl
  refine zJ_aload_n dX0_readPin_0 rfl ?_
  refine zJ_iconst (v := nI 0) dX0_readPin_1 rfl ?_
  refine zJ_aload_n dX0_readPin_2 rfl ?_
  refine zP_geti lf_X0_52 (zSt_ob hs 12 0 rfl) rfl dX0_readPin_3 ?_
  rw [hr.1.2.2.1]
  refine zJ_iconst (v := nI 1) dX0_readPin_6 rfl ?_
  refine zJ_isub dX0_readPin_7 ?_
  refine zP_ecallVi [_, _] _ lv_X0_105 (k_numP (lo := 0) (hi := rN r) (d := d - 1) hl (by omega) hs (pOk_0 ht) (by omega) (by omega) rfl rfl) (zSt_ob hs 1 10 rfl) rfl (by omega) (Nat.le_of_ble_eq_true rfl) rfl dX0_readPin_8 (fun y J hy => ?_)
  obtain ⟨n, rfl, hn, hf, hp⟩ := hy
  refine zJ_istore_m 2 dX0_readPin_11 rfl (Nat.le_of_ble_eq_true rfl) (by decide) ?_
  refine zJ_aload_n dX0_readPin_12 rfl ?_
  refine zP_callVi [] _ lv_X0_61 (k_failedP (d := d - 1) hl (by omega) hs hp) (zSt_ob hs 1 10 rfl) rfl (by omega) (Nat.le_of_ble_eq_true rfl) rfl dX0_readPin_13 ?_
  refine zJ_if_eq 20 dX0_readPin_16 (by decide) (fun c16 => ?_) (fun c16 => ?_)
  · replace c16 := zb0.mp c16
    have hrJ := cRb_fT hr (by decide) hf
    obtain ⟨q, hq, -, hqn, hn0, hn1⟩ := toE_ok hp c16
    have hpc := hrJ.2.2.1 n (by omega)
    have hpc4 := (hok.2.1 n (by omega)).1
    have hB2 : pBody bs L 4 r A = if 4 ≤ rpc r n then .inl (3, sk bs L A) else pbind (pPlace bs L (nuE bs L A)) fun p A => .inr ((r.1, rcr r, rlm r, un (rpc r) n (rpc r n + 1), un (rpn r) n (un (rpn r n) (rpc r n) p), rwd r, rwl r), A) := by
      rw [hB, hq, pbind_inr, hqn]
    refine zJ_aload_n dX0_readPin_20 rfl ?_
    refine zP_getr lf_X0_28 (zSt_ob hs 12 0 rfl) rfl (zSt_rf hs 12 6 15 rfl) dX0_readPin_21 ?_
    refine zJ_iload_n dX0_readPin_24 rfl ?_
    refine zP_iald (zSt_ar hs 15 6 rfl) (by first | assumption | with_reducible exact vp_in_nI (by omega) (by omega) | (simp (disch := omega) only [nI_add, pk_mul, pk_sub, pk_div, pk_rem, nI_clamp]; with_reducible exact vp_in_nI (by omega) (by omega))) dX0_readPin_25 ?_
    rw [nI_clamp (by omega), hpc]
    refine zJ_iconst (v := nI 4) dX0_readPin_26 rfl ?_
    refine zJ_icmp_lt 40 dX0_readPin_27 (by decide) (fun c27 => ?_) (fun c27 => ?_)
    · skip
      refine zJ_aload_n dX0_readPin_40 rfl ?_
      refine zJ_aload_n dX0_readPin_41 rfl ?_
      refine zP_ecallVi [_] _ lv_X0_123 (k_readPlace (P := fun _ => True) (r := .inr ((), nuE bs L A)) (d := d - 1) hl (by omega) hs ⟨by have h9 := hp.1; rw [hq] at h9; exact h9, fun x a z => by cases z; exact ⟨rfl, trivial⟩⟩) (zSt_ob hs 12 0 rfl) rfl (by omega) (Nat.le_of_ble_eq_true rfl) rfl dX0_readPin_42 (fun x J2 hx => ?_)
      obtain ⟨hf2, A', F', hp2⟩ := hx
      have hc4 := (nI_ltI (by omega) (by omega)).mp c27
      refine zJ_istore_m 3 dX0_readPin_45 rfl (Nat.le_of_ble_eq_true rfl) (by decide) ?_
      refine zJ_aload_n dX0_readPin_46 rfl ?_
      refine zP_callVi [] _ lv_X0_61 (k_failedP (d := d - 1) hl (by omega) hs hp2) (zSt_ob hs 1 10 rfl) rfl (by omega) (Nat.le_of_ble_eq_true rfl) rfl dX0_readPin_47 ?_
      refine zJ_if_ne 79 dX0_readPin_50 (by decide) (fun c50 => ?_) (fun c50 => ?_)
      · replace c50 := zb1.mp c50
        refine zJ_vret rfl dX0_readPin_79 ?_
        rw [if_neg (by omega)] at hB2
        refine ⟨rfl, J2, rfl, fB_fT (fT_trans hf hf2), A', F', pOk_bad (f := fun q A => .inr ((r.1, rcr r, rlm r, un (rpc r) n (rpc r n + 1), un (rpn r) n (un (rpn r n) (rpc r n) q.2), rwd r, rwl r), A)) hp2 c50 ?_⟩
        rw [hB2]
        simp only [pbind_assoc, pbind_inr]
      · replace c50 := zb0.mp c50
        refine zJ_aload_n dX0_readPin_53 rfl ?_
        refine zP_getr lf_X0_31 (zSt_ob hs 12 0 rfl) rfl (zSt_rf hs 12 7 16 rfl) dX0_readPin_54 ?_
        refine zJ_iload_n dX0_readPin_57 rfl ?_
        refine zJ_iconst (v := nI 4) dX0_readPin_58 rfl ?_
        refine zJ_imul dX0_readPin_59 ?_
        refine zJ_aload_n dX0_readPin_60 rfl ?_
        refine zP_getr lf_X0_28 (zSt_ob hs 12 0 rfl) rfl (zSt_rf hs 12 6 15 rfl) dX0_readPin_61 ?_
        refine zJ_iload_n dX0_readPin_64 rfl ?_
        refine zP_iald (zSt_ar hs 15 6 rfl) (by first | assumption | with_reducible exact vp_in_nI (by omega) (by omega) | (simp (disch := omega) only [nI_add, pk_mul, pk_sub, pk_div, pk_rem, nI_clamp]; with_reducible exact vp_in_nI (by omega) (by omega))) dX0_readPin_65 ?_
        rw [nI_clamp (by omega), hf2 15 (by decide), hpc]
        refine zJ_iadd dX0_readPin_66 ?_
        rw [pk_mul, nI_add]
        refine zJ_iload_n dX0_readPin_67 rfl ?_
        refine zP_iast (zSt_ar hs 16 24 rfl) (by first | assumption | with_reducible exact vp_in_nI (by omega) (by omega) | (simp (disch := omega) only [nI_add, pk_mul, pk_sub, pk_div, pk_rem, nI_clamp]; with_reducible exact vp_in_nI (by omega) (by omega))) dX0_readPin_68 ?_
        refine zJ_aload_n dX0_readPin_69 rfl ?_
        refine zP_getr lf_X0_28 (zSt_ob hs 12 0 rfl) rfl (zSt_rf hs 12 6 15 rfl) dX0_readPin_70 ?_
        refine zJ_iload_n dX0_readPin_73 rfl ?_
        refine zJ_dup2 dX0_readPin_74 rfl rfl ?_
        refine zP_iald (zSt_ar hs 15 6 rfl) (by first | assumption | with_reducible exact vp_in_nI (by omega) (by omega) | (simp (disch := omega) only [nI_add, pk_mul, pk_sub, pk_div, pk_rem, nI_clamp]; with_reducible exact vp_in_nI (by omega) (by omega))) dX0_readPin_75 ?_
        rw [zup_row (by decide), nI_clamp (by omega), hf2 15 (by decide), hpc]
        refine zJ_iconst (v := nI 1) dX0_readPin_76 rfl ?_
        refine zJ_iadd dX0_readPin_77 ?_
        rw [nI_add]
        refine zP_iast (zSt_ar hs 15 6 rfl) (by first | assumption | with_reducible exact vp_in_nI (by omega) (by omega) | (simp (disch := omega) only [nI_add, pk_mul, pk_sub, pk_div, pk_rem, nI_clamp]; with_reducible exact vp_in_nI (by omega) (by omega))) dX0_readPin_78 ?_
        refine zJ_vret rfl dX0_readPin_79 ?_
        rw [if_neg (by omega)] at hB2
        have hrJ2 := cRb_fT hrJ (by decide) hf2
        rw [nI_clamp (by omega), nI_clamp (by omega)]
        obtain ⟨q2, hq2, -, hx2, hq64⟩ := toE_ok hp2 c50
        subst hx2
        refine ⟨rfl, _, rfl, fB_zup (fB_zup (fB_fT (fT_trans hf hf2)) (by decide)) (by decide), A', F', pOk_map (fun q => (r.1, rcr r, rlm r, un (rpc r) n (rpc r n + 1), un (rpn r) n (un (rpn r n) (rpc r n) q.2), rwd r, rwl r)) (pOk_zup (pOk_zup hp2 (by decide)) (by decide)) ?_ (fun y hy => ?_)⟩
        · rw [hB2]
          simp only [pbind_assoc, pbind_inr]
        · have e : y.2 = q2.2 := ((nI_eq (by omega) (by omega)).mp hy.2.1).symm
          rw [e]
          refine ⟨cRb_pn hrJ2 hok (by omega) hc4, hok.1, fun m hm => ?_, fun m i hm hi => ?_, hok.2.2.2⟩
          · show un (rpc r) n (rpc r n + 1) m ≤ 4 ∧ (rN r ≤ m → un (rpc r) n (rpc r n + 1) m = 0)
            by_cases z : m = n
            · rw [z, un_at]; exact ⟨by omega, fun z => by omega⟩
            · rw [un_ne z]; exact hok.2.1 m hm
          · have hi' : i < un (rpc r) n (rpc r n + 1) m := hi
            show un (rpn r) n (un (rpn r n) (rpc r n) q2.2) m i < 64
            by_cases z : m = n
            · subst z
              rw [un_at] at hi' ⊢
              by_cases y9 : i = rpc r m
              · rw [y9, un_at]; exact hq64
              · rw [un_ne y9]; exact hok.2.2.1 m i hm (by omega)
            · rw [un_ne z] at hi' ⊢; exact hok.2.2.1 m i hm hi'
    · skip
      refine zJ_aload_n dX0_readPin_30 rfl ?_
      refine zJ_iconst (v := nI 3) dX0_readPin_31 rfl ?_
      refine zJ_aload_n dX0_readPin_32 rfl ?_
      refine zP_geti lf_X0_98 (zSt_ob hs 1 10 rfl) rfl dX0_readPin_33 ?_
      refine zP_ecallVv [_, _] _ lv_X0_101 (k_failP (β := zRb) (P := fun _ => True) (Q := fun _ => False) (r := .inr ((), nuE bs L A)) (w := sk bs L A) (d := d - 1) hl (by omega) hs ⟨by have h9 := hp.1; rw [hq] at h9; exact h9, fun x a z => by cases z; exact ⟨rfl, trivial⟩⟩ (by omega) (by omega) (tX_fr hp.1)) (zSt_ob hs 1 10 rfl) rfl (by omega) (Nat.le_of_ble_eq_true rfl) rfl dX0_readPin_36 (fun J2 hJ2 => ?_)
      refine zJ_vret rfl dX0_readPin_39 ?_
      have hc4 : 4 ≤ rpc r n := Nat.le_of_not_lt (fun z => c27 (nI_lt z (by omega)))
      rw [if_pos hc4] at hB2
      rw [hB2]
      exact ⟨rfl, J2, rfl, fB_fT (fT_trans hf hJ2.1), _, _, hJ2.2.1, fun x a z => by cases z⟩
  · replace c16 := zb1.mp c16
    refine zJ_vret rfl dX0_readPin_19 ?_
    exact ⟨rfl, J, rfl, fB_fT hf, _, _, pOk_bad hp c16 hB⟩
end ZBread
