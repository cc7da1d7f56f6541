/-! ===== the reference: undo, image, restore ===== -/
section ZRefAC
variable {l : Launch} {Xi : zXi} {d : Nat} {I : zI} {g : zG}
def rO (I J : zI) : Prop := ∀ a, (a < 74 ∨ 641 < a) → J a = I a
theorem rO_rfl : rO I I := fun _ _ => rfl
theorem rO_trans {J K : zI} (h : rO I J) (h2 : rO J K) : rO I K := fun a q => (h2 a q).trans (h a q)
theorem rO_rQ {J : zI} (h : rQ I J) : rO I J := fun a q => h.1 a (by omega) (by omega) (by omega) (by omega) (by omega) (by omega)
theorem rO_rQ2 {J : zI} (h : rQ2 I J) : rO I J := fun a q => h a (by omega) (by omega)
theorem rTp_of {J : zI} {fed : Nat} {bs : Nat → Nat} (h : rTp I fed bs) (e1 : J 74 1 = I 74 1) (e2 : J 75 = I 75) : rTp J fed bs := by
  unfold rTp at *
  rw [e1, e2]; exact h
theorem rWs_of {J : zI} {b : zWo} {w : Nat} {W : Nat → rwT} (h : rWs I b w W) (e0 : J 74 36 = I 74 36) (e : ∀ a, 537 ≤ a → a ≤ 552 → J a = I a) : rWs J b w W := ⟨e0.trans h.1, h.2.1, fun i hi => rRow_of (h.2.2 i hi) (e _ (by omega) (by have := h.2.1; omega))⟩
theorem rIm_of {J : zI} {b : zWo} {m : Nat} {Pr : Nat → rwT} {Pw : Nat → Nat} {Pa : Nat → Nat → rwT} (h : rIm I b m Pr Pw Pa) (e0 : J 74 38 = I 74 38) (e : ∀ a, 554 ≤ a → a ≤ 556 → J a = I a) : rIm J b m Pr Pw Pa := ⟨e0.trans h.1, h.2.1, fun k hk => by
  have := h.2.1
  unfold kR
  rw [e (553 + 1 + k) (by omega) (by omega)]; exact h.2.2 k hk⟩
theorem copy_to {a c : Nat} {b : zWo} {R : rwT} (hN : bN b ≤ 6) (hR : rRow I a b R) : rRow (va_up I c (fun k => if k < 519 then I a k else I c k)) c b R := by
  have e : ∀ j, j < 519 → va_up I c (fun k => if k < 519 then I a k else I c k) c j = I a j := fun j hj => by rw [va_up_same]; exact if_pos hj
  exact ⟨fun j hj => by rw [e j (by omega)]; exact hR.1 j hj, fun m hm => by rw [e _ (by omega)]; exact hR.2.1 m hm, by rw [e _ (by omega)]; exact hR.2.2⟩
theorem m_undo (hl : l.stackTraces = false) (hd : 12 ≤ d) (hs : zSt g) {S : sT} (hI : rI I S) : zEi l Xi mX13_undo d [.ref 74] I g (fun v J => J 74 0 = nI 0 ∧ rO I J ∧ if S.2.2.2.2.1.1 = 0 then v = -1 ∧ rI J S else v = nI (S.2.2.2.2.1.1 - 1) ∧ rI J (undS S)) := by
  refine zC_of hl rfl rfl rfl (Nat.le_of_ble_eq_true rfl) (zav_r (zSt_ob hs 74 13 rfl).1 zav_0) ?_
  have hI0 := hI
  obtain ⟨h1, h2, h3, h4, h5, h6, h7, h8, h9, h10⟩ := hI
  have hN6 := h3.1.2.2.2.2.1
  have hw16 := h6.2.1
  by_cases hz : S.2.2.2.2.1.1 = 0
  · simp only [if_pos hz]
    refine zJ_aload_n dX13_undo_0 rfl ?_
    refine zJ_iconst (v := nI 0) dX13_undo_1 rfl ?_
    refine zP_puti lf_X13_107 (zSt_ob hs 74 13 rfl) rfl dX13_undo_2 ?_
    refine zJ_aload_n dX13_undo_5 rfl ?_
    refine zP_geti lf_X13_218 (zSt_ob hs 74 13 rfl) rfl dX13_undo_6 ?_
    rw [thr_ne (by decide), h6.1, hz]
    refine zJ_if_ne 14 dX13_undo_9 (by decide) (fun c9 => absurd rfl c9) (fun _ => ?_)
    refine zJ_iconst (v := -1) dX13_undo_12 rfl ?_
    refine zJ_iret rfl dX13_undo_13 ?_
    exact ⟨_, _, rfl, rfl, thr_at, rO_rQ rQ_thr, rfl, rI_rQ hI0 rQ_thr⟩
  simp only [if_neg hz]
  obtain ⟨w, hw⟩ : ∃ w, S.2.2.2.2.1.1 = w + 1 := ⟨S.2.2.2.2.1.1 - 1, by omega⟩
  have hwk : I 74 36 = nI (w + 1) := by rw [h6.1, hw]
  obtain ⟨J1, hJ1⟩ : ∃ J, zup (zup I 74 0 (nI 0)) 74 36 (nI w) = J := ⟨_, rfl⟩
  have e1 : ∀ a, a ≠ 74 → J1 a = I a := fun a ha => by rw [← hJ1, zup_row ha, zup_row ha]
  have f1 : ∀ k, k ≠ 0 → k ≠ 36 → J1 74 k = I 74 k := fun k q1 q2 => by rw [← hJ1, zup_same, upd_ne q2, zup_same, upd_ne q1]
  have f0 : J1 74 0 = nI 0 := by rw [← hJ1, zup_same, upd_ne (by decide), zup_same, upd_at]
  have f36 : J1 74 36 = nI w := by rw [← hJ1, zup_same, upd_at]
  have hRw : rRow J1 (536 + 1 + w) S.2.1 (S.2.2.2.2.1.2 w) := rRow_of (h6.2.2 w (by omega)) (e1 _ (by omega))
  refine zJ_aload_n dX13_undo_0 rfl ?_
  refine zJ_iconst (v := nI 0) dX13_undo_1 rfl ?_
  refine zP_puti lf_X13_107 (zSt_ob hs 74 13 rfl) rfl dX13_undo_2 ?_
  refine zJ_aload_n dX13_undo_5 rfl ?_
  refine zP_geti lf_X13_218 (zSt_ob hs 74 13 rfl) rfl dX13_undo_6 ?_
  rw [thr_ne (by decide), hwk]
  refine zJ_if_ne 14 dX13_undo_9 (by decide) (fun _ => ?_) (fun c9 => absurd c9 (nI_ne0 (by omega) (by omega)))
  refine zJ_aload_n dX13_undo_14 rfl ?_
  refine zJ_dup dX13_undo_15 rfl ?_
  refine zP_geti lf_X13_218 (zSt_ob hs 74 13 rfl) rfl dX13_undo_16 ?_
  refine zJ_iconst (v := nI 1) dX13_undo_19 rfl ?_
  rw [thr_ne (by decide), hwk]
  refine zJ_isub dX13_undo_20 ?_
  rw [pk_sub (by omega), Nat.add_sub_cancel]
  refine zP_puti lf_X13_218 (zSt_ob hs 74 13 rfl) rfl dX13_undo_21 ?_
  rw [hJ1]
  refine zJ_aload_n dX13_undo_24 rfl ?_
  refine zP_getr lf_X13_79 (zSt_ob hs 74 13 rfl) rfl (zSt_rf hs 74 33 536 rfl) dX13_undo_25 ?_
  refine zJ_aload_n dX13_undo_28 rfl ?_
  refine zP_geti lf_X13_218 (zSt_ob hs 74 13 rfl) rfl dX13_undo_29 ?_
  rw [f36]
  refine zP_rowK (k := w) (zSt_g536 hs) (by omega) (by decide) dX13_undo_32 ?_
  refine zJ_aload_n dX13_undo_33 rfl ?_
  refine zP_getr lf_X13_70 (zSt_ob hs 74 13 rfl) rfl (zSt_rf hs 74 30 533 rfl) dX13_undo_34 ?_
  refine zP_callSv [_, _] _ ls_X13_379 (k_copies (d := d - 1) hl (by omega) (zGr_ar (zSt_g536 hs) (by omega)) (zSt_ar hs 533 519 rfl) (by omega)) rfl (by omega) (Nat.le_of_ble_eq_true rfl) rfl dX13_undo_37 ?_
  refine zJ_aload_n dX13_undo_40 rfl ?_
  refine zJ_iconst (v := nI 0) dX13_undo_41 rfl ?_
  refine zP_puti lf_X13_221 (zSt_ob hs 74 13 rfl) rfl dX13_undo_42 ?_
  refine zJ_aload_n dX13_undo_45 rfl ?_
  refine zP_geti lf_X13_218 (zSt_ob hs 74 13 rfl) rfl dX13_undo_46 ?_
  refine zJ_iret rfl dX13_undo_49 ?_
  obtain ⟨J2, hJ2⟩ : ∃ J, zup (va_up J1 533 (fun k => if k < 519 then J1 (536 + 1 + w) k else J1 533 k)) 74 37 (nI 0) = J := ⟨_, rfl⟩
  have e2 : ∀ a, a ≠ 74 → a ≠ 533 → J2 a = I a := fun a q1 q2 => by rw [← hJ2, zup_row q1, va_up_row q2]; exact e1 a q1
  have f2 : ∀ k, k ≠ 0 → k ≠ 36 → k ≠ 37 → J2 74 k = I 74 k := fun k q1 q2 q3 => by rw [← hJ2, zup_same, upd_ne q3, va_up_row (by decide)]; exact f1 k q1 q2
  have g0 : J2 74 0 = nI 0 := by rw [← hJ2, zup_same, upd_ne (by decide), va_up_row (by decide)]; exact f0
  have g36 : J2 74 36 = nI w := by rw [← hJ2, zup_same, upd_ne (by decide), va_up_row (by decide)]; exact f36
  have g37 : J2 74 37 = nI 0 := by rw [← hJ2, zup_same, upd_at]
  rw [show (537 + w) = 536 + 1 + w from by omega] at *
  rw [hJ2]
  refine ⟨_, J2, rfl, rfl, g0, fun a q => e2 a (by omega) (by omega), ?_, ?_⟩
  · rw [g36, hw, Nat.add_sub_cancel]
  · unfold undS
    rw [hw, Nat.add_sub_cancel]
    refine ⟨rTp_of h1 (f2 1 (by decide) (by decide) (by decide)) (e2 75 (by decide) (by decide)), by rw [f2 3 (by decide) (by decide) (by decide)]; exact h2, rB_of h3 (f2 20 (by decide) (by decide) (by decide)) (fun a ha => e2 a (by omega) (by omega)), ?_, rLn_of h5 (f2 35 (by decide) (by decide) (by decide)) (fun a q1 q2 => e2 a (by omega) (by omega)), ⟨g36, show w ≤ 16 by omega, fun i hi => have hi2 : i < w := hi; rRow_of (h6.2.2 i (by omega)) (e2 _ (by omega) (by omega))⟩, rIm_of h7 (f2 38 (by decide) (by decide) (by decide)) (fun a q1 q2 => e2 a (by omega) (by omega)), g37, by rw [e2 76 (by decide) (by decide)]; exact h9, by rw [e2 76 (by decide) (by decide)]; exact h10⟩
    exact rRow_of (copy_to hN6 hRw) (by rw [← hJ2, zup_row (by decide)])
theorem zup_id {a k : Nat} : zup I a k (I a k) = I := by
  funext c j
  by_cases z : c = a
  · subst z
    rw [zup_same]
    by_cases z2 : j = k
    · subst z2; rw [upd_at]
    · rw [upd_ne z2]
  · rw [zup_row z]
theorem m_putsF (hl : l.stackTraces = false) (hd : 1 ≤ d) (hs : zSt g) {c s : Nat} {v : Int32} (hc : zAr g c 8824) (hc7 : c ≠ 74) (hsp : I 74 39 = nI s) (h8 : s < 8824) : zD l Xi mX13_puts d [.ref 74, .ref c, .int v, .int (nI 0)] I g (some (.int v)) (zup (zup I c s v) 74 39 (nI (s + 1))) := by
  refine zC_of hl rfl rfl rfl (Nat.le_of_ble_eq_true rfl) (zav_r (zSt_ob hs 74 13 rfl).1 (zav_r hc.1 (zav_i (zav_i zav_0)))) ?_
  refine zJ_iload_n dX13_puts_0 rfl ?_
  refine zJ_if_ne 11 dX13_puts_1 (by decide) (fun c1 => absurd rfl c1) (fun _ => ?_)
  refine zJ_aload_n dX13_puts_4 rfl ?_
  refine zJ_aload_n dX13_puts_5 rfl ?_
  refine zP_geti lf_X13_463 (zSt_ob hs 74 13 rfl) rfl dX13_puts_6 ?_
  rw [hsp]
  refine zJ_iload_n dX13_puts_9 rfl ?_
  refine zP_iast hc (by first | assumption | with_reducible exact vp_in_nI (by omega) (by omega) | (simp (disch := omega) only [nI_add, pk_mul, pk_sub, pk_div, pk_rem, nI_clamp]; with_reducible exact vp_in_nI (by omega) (by omega))) dX13_puts_10 ?_
  rw [nI_clamp (by omega)]
  refine zJ_aload_n dX13_puts_11 rfl ?_
  refine zJ_dup dX13_puts_12 rfl ?_
  refine zP_geti lf_X13_463 (zSt_ob hs 74 13 rfl) rfl dX13_puts_13 ?_
  rw [zup_row (Ne.symm hc7), hsp]
  refine zJ_iconst (v := nI 1) dX13_puts_16 rfl ?_
  refine zJ_iadd dX13_puts_17 ?_
  rw [nI_add]
  refine zP_puti lf_X13_463 (zSt_ob hs 74 13 rfl) rfl dX13_puts_18 ?_
  refine zJ_aload_n dX13_puts_21 rfl ?_
  refine zJ_aload_n dX13_puts_22 rfl ?_
  refine zP_geti lf_X13_463 (zSt_ob hs 74 13 rfl) rfl dX13_puts_23 ?_
  rw [zup_same, upd_at]
  refine zJ_iconst (v := nI 1) dX13_puts_26 rfl ?_
  refine zJ_isub dX13_puts_27 ?_
  rw [pk_sub (by omega), Nat.add_sub_cancel]
  refine zP_iald hc (by first | assumption | with_reducible exact vp_in_nI (by omega) (by omega) | (simp (disch := omega) only [nI_add, pk_mul, pk_sub, pk_div, pk_rem, nI_clamp]; with_reducible exact vp_in_nI (by omega) (by omega))) dX13_puts_28 ?_
  rw [nI_clamp (by omega), zup_row hc7, zup_same, upd_at]
  refine zJ_iret rfl dX13_puts_29 ?_
  exact ⟨rfl, rfl⟩
theorem m_putsT (hl : l.stackTraces = false) (hd : 1 ≤ d) (hs : zSt g) {c s : Nat} {v : Int32} (hc : zAr g c 8824) (hc7 : c ≠ 74) (hsp : I 74 39 = nI s) (h8 : s < 8824) : zD l Xi mX13_puts d [.ref 74, .ref c, .int v, .int (nI 1)] I g (some (.int (I c s))) (zup I 74 39 (nI (s + 1))) := by
  refine zC_of hl rfl rfl rfl (Nat.le_of_ble_eq_true rfl) (zav_r (zSt_ob hs 74 13 rfl).1 (zav_r hc.1 (zav_i (zav_i zav_0)))) ?_
  refine zJ_iload_n dX13_puts_0 rfl ?_
  refine zJ_if_ne 11 dX13_puts_1 (by decide) (fun _ => ?_) (fun c1 => absurd c1 (by decide))
  refine zJ_aload_n dX13_puts_11 rfl ?_
  refine zJ_dup dX13_puts_12 rfl ?_
  refine zP_geti lf_X13_463 (zSt_ob hs 74 13 rfl) rfl dX13_puts_13 ?_
  rw [hsp]
  refine zJ_iconst (v := nI 1) dX13_puts_16 rfl ?_
  refine zJ_iadd dX13_puts_17 ?_
  rw [nI_add]
  refine zP_puti lf_X13_463 (zSt_ob hs 74 13 rfl) rfl dX13_puts_18 ?_
  refine zJ_aload_n dX13_puts_21 rfl ?_
  refine zJ_aload_n dX13_puts_22 rfl ?_
  refine zP_geti lf_X13_463 (zSt_ob hs 74 13 rfl) rfl dX13_puts_23 ?_
  rw [zup_same, upd_at]
  refine zJ_iconst (v := nI 1) dX13_puts_26 rfl ?_
  refine zJ_isub dX13_puts_27 ?_
  rw [pk_sub (by omega), Nat.add_sub_cancel]
  refine zP_iald hc (by first | assumption | with_reducible exact vp_in_nI (by omega) (by omega) | (simp (disch := omega) only [nI_add, pk_mul, pk_sub, pk_div, pk_rem, nI_clamp]; with_reducible exact vp_in_nI (by omega) (by omega))) dX13_puts_28 ?_
  rw [nI_clamp (by omega), zup_row hc7]
  refine zJ_iret rfl dX13_puts_29 ?_
  exact ⟨rfl, rfl⟩
/-- what an image holds -/
def imF (I : zI) (j : Nat) : Int32 := if j = 0 then I 74 36 else if j < 520 then I 533 (j - 1) else I (536 + 1 + (j - 520) / 519) ((j - 520) % 519)
set_option maxHeartbeats 1000000 in
theorem m_putsAllF (hl : l.stackTraces = false) (hd : 2 ≤ d) (hs : zSt g) {c : Nat} (hc : zAr g c 8824) (hcc : 554 ≤ c ∧ c ≤ 556) : zEv l Xi mX13_putsAll d [.ref 74, .ref c, .int (nI 0)] I g (fun J => (∀ a, a ≠ 74 → a ≠ c → J a = I a) ∧ (∀ k, k ≠ 39 → J 74 k = I 74 k) ∧ ∀ j, j < 8824 → J c j = imF I j) := by
  refine zC_of hl rfl rfl rfl (Nat.le_of_ble_eq_true rfl) (zav_r (zSt_ob hs 74 13 rfl).1 (zav_r hc.1 (zav_i zav_0))) ?_
  have ha := zSt_ar hs 533 519 rfl
  obtain ⟨P, hP⟩ : ∃ P : zR → zH → Prop, P = (fun r' h' => r' = .inl none ∧ ∃ I', h' = (I', g) ∧ (∀ a, a ≠ 74 → a ≠ c → I' a = I a) ∧ (∀ k, k ≠ 39 → I' 74 k = I 74 k) ∧ ∀ j, j < 8824 → I' c j = imF I j) := ⟨_, rfl⟩
  obtain ⟨Q, hQ⟩ : ∃ Q : zI → Nat → Prop, Q = fun K s => (∀ a, a ≠ 74 → a ≠ c → K a = I a) ∧ (∀ k, k ≠ 39 → K 74 k = I 74 k) ∧ K 74 39 = nI s ∧ ∀ j, j < s → K c j = imF I j := ⟨_, rfl⟩
  have put : ∀ (K : zI) (s : Nat) (x : Int32), s < 8824 → Q K s → x = imF I s → Q (zup (zup K c s x) 74 39 (nI (s + 1))) (s + 1) := by
    intro K s x hs8 hK hx
    rw [hQ] at hK ⊢
    refine ⟨fun a q1 q2 => by rw [zup_row q1, zup_row q2]; exact hK.1 a q1 q2, fun k hk => by rw [zup_same, upd_ne hk, zup_row (by omega)]; exact hK.2.1 k hk, by rw [zup_same, upd_at], fun j hj => ?_⟩
    rw [zup_row (by omega), zup_same]
    by_cases z : j = s
    · rw [z, upd_at, hx]
    · rw [upd_ne z]; exact hK.2.2.2 j (by omega)
  have two : ∀ m w (K : zI), w + m = 16 → Q K (520 + 519 * w) → zJ l Xi mX13_putsAll d 0 0 54 [some (.ref 74), some (.ref c), some (.int (nI 0)), some (.int (nI w)), none] [] (K, g) P := by
    intro m
    induction m with
    | zero =>
      intro w K hw hK
      obtain rfl : w = 16 := by omega
      rw [hQ] at hK
      rw [hP]
      refine zJ_iload_n dX13_putsAll_54 rfl ?_
      refine zJ_bipush (v := nI 16) dX13_putsAll_55 rfl ?_
      refine zJ_icmp_ge 107 dX13_putsAll_57 (by decide) (fun _ => ?_) (fun c57 => absurd (nI_le (by omega) (by omega)) c57)
      refine zJ_vret rfl dX13_putsAll_107 ?_
      exact ⟨rfl, K, rfl, hK.1, hK.2.1, fun j hj => hK.2.2.2 j (by omega)⟩
    | succ m ih =>
      intro w K hw hK
      have inner : ∀ m2 k (K : zI), k + m2 = 519 → Q K (520 + 519 * w + k) → zJ l Xi mX13_putsAll d 0 0 63 [some (.ref 74), some (.ref c), some (.int (nI 0)), some (.int (nI w)), some (.int (nI k))] [] (K, g) P := by
        intro m2
        induction m2 with
        | zero =>
          intro k K hk hK
          obtain rfl : k = 519 := by omega
          refine zJ_iload dX13_putsAll_63 rfl ?_
          refine zJ_sipush (v := nI 519) dX13_putsAll_65 rfl ?_
          refine zJ_icmp_ge 101 dX13_putsAll_68 (by decide) (fun _ => ?_) (fun c68 => absurd (nI_le (by omega) (by omega)) c68)
          refine zJ_iinc1 dX13_putsAll_101 rfl (by decide) ?_
          refine zJ_goto 54 dX13_putsAll_104 (by decide) ?_
          exact zJ_back (zle_r (zle_r (zle_r (zle_r (zle_n zle_0))))) rfl (ih (w + 1) K (by omega) (Eq.mp (congrArg (Q K) (by omega)) hK))
        | succ m2 ih2 =>
          intro k K hk hK
          have hK1 := hK
          rw [hQ] at hK1
          have hv : K (536 + 1 + w) k = imF I (520 + 519 * w + k) := by
            rw [hK1.1 _ (by omega) (by omega)]
            unfold imF
            rw [if_neg (by omega), if_neg (by omega), show (520 + 519 * w + k - 520) / 519 = w by omega, show (520 + 519 * w + k - 520) % 519 = k by omega]
          have hp := put K (520 + 519 * w + k) _ (by omega) hK hv
          refine zJ_iload dX13_putsAll_63 rfl ?_
          refine zJ_sipush (v := nI 519) dX13_putsAll_65 rfl ?_
          refine zJ_icmp_ge 101 dX13_putsAll_68 (by decide) (fun c68 => absurd c68 (nI_ge (by omega) (by omega))) (fun _ => ?_)
          refine zJ_aload_n dX13_putsAll_71 rfl ?_
          refine zP_getr lf_X13_79 (zSt_ob hs 74 13 rfl) rfl (zSt_rf hs 74 33 536 rfl) dX13_putsAll_72 ?_
          refine zJ_iload_n dX13_putsAll_75 rfl ?_
          refine zP_rowK (k := w) (zSt_g536 hs) (by omega) (by decide) dX13_putsAll_76 ?_
          refine zJ_iload dX13_putsAll_77 rfl ?_
          refine zJ_aload_n dX13_putsAll_79 rfl ?_
          refine zJ_aload_n dX13_putsAll_80 rfl ?_
          refine zJ_aload_n dX13_putsAll_81 rfl ?_
          refine zP_getr lf_X13_79 (zSt_ob hs 74 13 rfl) rfl (zSt_rf hs 74 33 536 rfl) dX13_putsAll_82 ?_
          refine zJ_iload_n dX13_putsAll_85 rfl ?_
          refine zP_rowK (k := w) (zSt_g536 hs) (by omega) (by decide) dX13_putsAll_86 ?_
          refine zJ_iload dX13_putsAll_87 rfl ?_
          refine zP_iald (zGr_ar (zSt_g536 hs) (i := w) (by omega)) (by first | assumption | with_reducible exact vp_in_nI (by omega) (by omega) | (simp (disch := omega) only [nI_add, pk_mul, pk_sub, pk_div, pk_rem, nI_clamp]; with_reducible exact vp_in_nI (by omega) (by omega))) dX13_putsAll_89 ?_
          rw [nI_clamp (by omega)]
          refine zJ_iload_n dX13_putsAll_90 rfl ?_
          refine zP_callVi [_, _, _] _ lv_X13_466 (m_putsF (d := d - 1) (s := 520 + 519 * w + k) hl (by omega) hs hc (by omega) hK1.2.2.1 (by omega)) (zSt_ob hs 74 13 rfl) rfl (by omega) (Nat.le_of_ble_eq_true rfl) rfl dX13_putsAll_91 ?_
          refine zP_iast (zGr_ar (zSt_g536 hs) (i := w) (by omega)) (by first | assumption | with_reducible exact vp_in_nI (by omega) (by omega) | (simp (disch := omega) only [nI_add, pk_mul, pk_sub, pk_div, pk_rem, nI_clamp]; with_reducible exact vp_in_nI (by omega) (by omega))) dX13_putsAll_94 ?_
          refine zJ_iinc1 dX13_putsAll_95 rfl (by decide) ?_
          refine zJ_goto 63 dX13_putsAll_98 (by decide) ?_
          rw [nI_clamp (by omega)]
          obtain ⟨K2, hK2⟩ : ∃ K2, zup (zup K c (520 + 519 * w + k) (K (536 + 1 + w) k)) 74 39 (nI (520 + 519 * w + k + 1)) = K2 := ⟨_, rfl⟩
          rw [hK2] at hp ⊢
          have e : K (536 + 1 + w) k = K2 (536 + 1 + w) k := by rw [← hK2, zup_row (by omega), zup_row (by omega)]
          rw [e, zup_id]
          exact zJ_back (zle_r (zle_r (zle_r (zle_r (zle_r zle_0))))) rfl (ih2 (k + 1) K2 (by omega) hp)
      refine zJ_iload_n dX13_putsAll_54 rfl ?_
      refine zJ_bipush (v := nI 16) dX13_putsAll_55 rfl ?_
      refine zJ_icmp_ge 107 dX13_putsAll_57 (by decide) (fun c57 => absurd c57 (nI_ge (by omega) (by omega))) (fun _ => ?_)
      refine zJ_iconst (v := nI 0) dX13_putsAll_60 rfl ?_
      refine zJ_istore dX13_putsAll_61 (Nat.le_of_ble_eq_true rfl) (by decide) ?_
      exact zJ_back (zle_r (zle_r (zle_r (zle_r (zle_r zle_0))))) rfl (inner 519 0 K (by omega) hK)
  have one : ∀ m k (K : zI), k + m = 519 → Q K (1 + k) → zJ l Xi mX13_putsAll d 0 0 21 [some (.ref 74), some (.ref c), some (.int (nI 0)), some (.int (nI k)), none] [] (K, g) P := by
    intro m
    induction m with
    | zero =>
      intro k K hk hK
      obtain rfl : k = 519 := by omega
      refine zJ_iload_n dX13_putsAll_21 rfl ?_
      refine zJ_sipush (v := nI 519) dX13_putsAll_22 rfl ?_
      refine zJ_icmp_ge 52 dX13_putsAll_25 (by decide) (fun _ => ?_) (fun c25 => absurd (nI_le (by omega) (by omega)) c25)
      refine zJ_iconst (v := nI 0) dX13_putsAll_52 rfl ?_
      refine zJ_istore_m 3 dX13_putsAll_53 rfl (Nat.le_of_ble_eq_true rfl) (by decide) ?_
      exact zJ_back (zle_r (zle_r (zle_r (zle_r (zle_n zle_0))))) rfl (two 16 0 K (by omega) hK)
    | succ m ih =>
      intro k K hk hK
      have hK1 := hK
      rw [hQ] at hK1
      have hv : K 533 k = imF I (1 + k) := by
        rw [hK1.1 _ (by omega) (by omega)]
        unfold imF
        rw [if_neg (by omega), if_pos (by omega), Nat.add_sub_cancel_left]
      have hp := put K (1 + k) _ (by omega) hK hv
      refine zJ_iload_n dX13_putsAll_21 rfl ?_
      refine zJ_sipush (v := nI 519) dX13_putsAll_22 rfl ?_
      refine zJ_icmp_ge 52 dX13_putsAll_25 (by decide) (fun c25 => absurd c25 (nI_ge (by omega) (by omega))) (fun _ => ?_)
      refine zJ_aload_n dX13_putsAll_28 rfl ?_
      refine zP_getr lf_X13_70 (zSt_ob hs 74 13 rfl) rfl (zSt_rf hs 74 30 533 rfl) dX13_putsAll_29 ?_
      refine zJ_iload_n dX13_putsAll_32 rfl ?_
      refine zJ_aload_n dX13_putsAll_33 rfl ?_
      refine zJ_aload_n dX13_putsAll_34 rfl ?_
      refine zJ_aload_n dX13_putsAll_35 rfl ?_
      refine zP_getr lf_X13_70 (zSt_ob hs 74 13 rfl) rfl (zSt_rf hs 74 30 533 rfl) dX13_putsAll_36 ?_
      refine zJ_iload_n dX13_putsAll_39 rfl ?_
      refine zP_iald (zSt_ar hs 533 519 rfl) (by first | assumption | with_reducible exact vp_in_nI (by omega) (by omega) | (simp (disch := omega) only [nI_add, pk_mul, pk_sub, pk_div, pk_rem, nI_clamp]; with_reducible exact vp_in_nI (by omega) (by omega))) dX13_putsAll_40 ?_
      rw [nI_clamp (by omega)]
      refine zJ_iload_n dX13_putsAll_41 rfl ?_
      refine zP_callVi [_, _, _] _ lv_X13_466 (m_putsF (d := d - 1) (s := 1 + k) hl (by omega) hs hc (by omega) hK1.2.2.1 (by omega)) (zSt_ob hs 74 13 rfl) rfl (by omega) (Nat.le_of_ble_eq_true rfl) rfl dX13_putsAll_42 ?_
      refine zP_iast (zSt_ar hs 533 519 rfl) (by first | assumption | with_reducible exact vp_in_nI (by omega) (by omega) | (simp (disch := omega) only [nI_add, pk_mul, pk_sub, pk_div, pk_rem, nI_clamp]; with_reducible exact vp_in_nI (by omega) (by omega))) dX13_putsAll_45 ?_
      refine zJ_iinc1 dX13_putsAll_46 rfl (by decide) ?_
      refine zJ_goto 21 dX13_putsAll_49 (by decide) ?_
      rw [nI_clamp (by omega)]
      obtain ⟨K2, hK2⟩ : ∃ K2, zup (zup K c (1 + k) (K 533 k)) 74 39 (nI (1 + k + 1)) = K2 := ⟨_, rfl⟩
      rw [hK2] at hp ⊢
      have e : K 533 k = K2 533 k := by rw [← hK2, zup_row (by decide), zup_row (by omega)]
      rw [e, zup_id]
      exact zJ_back (zle_r (zle_r (zle_r (zle_r (zle_n zle_0))))) rfl (ih (k + 1) K2 (by omega) hp)
  obtain ⟨K0, hK0⟩ : ∃ K, zup I 74 39 (nI 0) = K := ⟨_, rfl⟩
  have q0 : Q K0 0 := by
    rw [hQ, ← hK0]
    exact ⟨fun a q1 _ => zup_row q1, fun k hk => by rw [zup_same, upd_ne hk], by rw [zup_same, upd_at], fun j hj => absurd hj (Nat.not_lt_zero _)⟩
  have q01 := q0
  rw [hQ] at q01
  have hv : K0 74 36 = imF I 0 := q01.2.1 36 (by decide)
  have hp := put K0 0 _ (by decide) q0 hv
  rw [← hP]
  refine zJ_aload_n dX13_putsAll_0 rfl ?_
  refine zJ_iconst (v := nI 0) dX13_putsAll_1 rfl ?_
  refine zP_puti lf_X13_463 (zSt_ob hs 74 13 rfl) rfl dX13_putsAll_2 ?_
  rw [hK0]
  refine zJ_aload_n dX13_putsAll_5 rfl ?_
  refine zJ_aload_n dX13_putsAll_6 rfl ?_
  refine zJ_aload_n dX13_putsAll_7 rfl ?_
  refine zJ_aload_n dX13_putsAll_8 rfl ?_
  refine zP_geti lf_X13_218 (zSt_ob hs 74 13 rfl) rfl dX13_putsAll_9 ?_
  refine zJ_iload_n dX13_putsAll_12 rfl ?_
  refine zP_callVi [_, _, _] _ lv_X13_466 (m_putsF (d := d - 1) (s := 0) hl (by omega) hs hc (by omega) q01.2.2.1 (by omega)) (zSt_ob hs 74 13 rfl) rfl (by omega) (Nat.le_of_ble_eq_true rfl) rfl dX13_putsAll_13 ?_
  refine zP_puti lf_X13_218 (zSt_ob hs 74 13 rfl) rfl dX13_putsAll_16 ?_
  refine zJ_iconst (v := nI 0) dX13_putsAll_19 rfl ?_
  refine zJ_istore_m 3 dX13_putsAll_20 rfl (Nat.le_of_ble_eq_true rfl) (by decide) ?_
  obtain ⟨K2, hK2⟩ : ∃ K2, zup (zup K0 c 0 (K0 74 36)) 74 39 (nI (0 + 1)) = K2 := ⟨_, rfl⟩
  rw [hK2] at hp ⊢
  have e : K0 74 36 = K2 74 36 := by rw [← hK2, zup_same, upd_ne (by decide), zup_row (by omega)]
  rw [e, zup_id]
  exact zJ_back (zle_r (zle_r (zle_r (zle_r (zle_n zle_0))))) rfl (one 519 0 K2 (by omega) hp)
set_option maxHeartbeats 1000000 in
theorem m_putsAllT (hl : l.stackTraces = false) (hd : 2 ≤ d) (hs : zSt g) {c : Nat} (hc : zAr g c 8824) (hcc : 554 ≤ c ∧ c ≤ 556) : zEv l Xi mX13_putsAll d [.ref 74, .ref c, .int (nI 1)] I g (fun J => (∀ a, a ≠ 74 → a ≠ 533 → (a < 537 ∨ 552 < a) → J a = I a) ∧ (∀ k, k ≠ 39 → k ≠ 36 → J 74 k = I 74 k) ∧ J 74 36 = I c 0 ∧ (∀ j, j < 519 → J 533 j = I c (1 + j)) ∧ ∀ w j, w < 16 → j < 519 → J (536 + 1 + w) j = I c (520 + 519 * w + j)) := by
  refine zC_of hl rfl rfl rfl (Nat.le_of_ble_eq_true rfl) (zav_r (zSt_ob hs 74 13 rfl).1 (zav_r hc.1 (zav_i zav_0))) ?_
  have ha := zSt_ar hs 533 519 rfl
  obtain ⟨P, hP⟩ : ∃ P : zR → zH → Prop, P = (fun r' h' => r' = .inl none ∧ ∃ I', h' = (I', g) ∧ (∀ a, a ≠ 74 → a ≠ 533 → (a < 537 ∨ 552 < a) → I' a = I a) ∧ (∀ k, k ≠ 39 → k ≠ 36 → I' 74 k = I 74 k) ∧ I' 74 36 = I c 0 ∧ (∀ j, j < 519 → I' 533 j = I c (1 + j)) ∧ ∀ w j, w < 16 → j < 519 → I' (536 + 1 + w) j = I c (520 + 519 * w + j)) := ⟨_, rfl⟩
  obtain ⟨Q, hQ⟩ : ∃ Q : zI → Prop, Q = fun K => (∀ a, a ≠ 74 → a ≠ 533 → (a < 537 ∨ 552 < a) → K a = I a) ∧ (∀ k, k ≠ 39 → k ≠ 36 → K 74 k = I 74 k) ∧ K 74 36 = I c 0 := ⟨_, rfl⟩
  have two : ∀ m w (K : zI), w + m = 16 → Q K → K 74 39 = nI (520 + 519 * w) → (∀ j, j < 519 → K 533 j = I c (1 + j)) → (∀ v j, v < w → j < 519 → K (536 + 1 + v) j = I c (520 + 519 * v + j)) → zJ l Xi mX13_putsAll d 0 0 54 [some (.ref 74), some (.ref c), some (.int (nI 1)), some (.int (nI w)), none] [] (K, g) P := by
    intro m
    induction m with
    | zero =>
      intro w K hw hK hsp h5 hB
      obtain rfl : w = 16 := by omega
      rw [hQ] at hK
      rw [hP]
      refine zJ_iload_n dX13_putsAll_54 rfl ?_
      refine zJ_bipush (v := nI 16) dX13_putsAll_55 rfl ?_
      refine zJ_icmp_ge 107 dX13_putsAll_57 (by decide) (fun _ => ?_) (fun c57 => absurd (nI_le (by omega) (by omega)) c57)
      refine zJ_vret rfl dX13_putsAll_107 ?_
      exact ⟨rfl, K, rfl, hK.1, hK.2.1, hK.2.2, h5, hB⟩
    | succ m ih =>
      intro w K hw hK hsp h5 hB
      have inner : ∀ m2 k (K : zI), k + m2 = 519 → Q K → K 74 39 = nI (520 + 519 * w + k) → (∀ j, j < 519 → K 533 j = I c (1 + j)) → (∀ v j, v < w → j < 519 → K (536 + 1 + v) j = I c (520 + 519 * v + j)) → (∀ j, j < k → K (536 + 1 + w) j = I c (520 + 519 * w + j)) → zJ l Xi mX13_putsAll d 0 0 63 [some (.ref 74), some (.ref c), some (.int (nI 1)), some (.int (nI w)), some (.int (nI k))] [] (K, g) P := by
        intro m2
        induction m2 with
        | zero =>
          intro k K hk hK hsp h5 hB hW
          obtain rfl : k = 519 := by omega
          refine zJ_iload dX13_putsAll_63 rfl ?_
          refine zJ_sipush (v := nI 519) dX13_putsAll_65 rfl ?_
          refine zJ_icmp_ge 101 dX13_putsAll_68 (by decide) (fun _ => ?_) (fun c68 => absurd (nI_le (by omega) (by omega)) c68)
          refine zJ_iinc1 dX13_putsAll_101 rfl (by decide) ?_
          refine zJ_goto 54 dX13_putsAll_104 (by decide) ?_
          refine zJ_back (zle_r (zle_r (zle_r (zle_r (zle_n zle_0))))) rfl (ih (w + 1) K (by omega) hK (hsp.trans (congrArg nI (by omega))) h5 (fun v j hv hj => ?_))
          by_cases z : v = w
          · rw [z]; exact hW j hj
          · exact hB v j (by omega) hj
        | succ m2 ih2 =>
          intro k K hk hK hsp h5 hB hW
          have hK1 := hK
          rw [hQ] at hK1
          have hcv : K c (520 + 519 * w + k) = I c (520 + 519 * w + k) := by rw [hK1.1 c (by omega) (by omega) (by omega)]
          refine zJ_iload dX13_putsAll_63 rfl ?_
          refine zJ_sipush (v := nI 519) dX13_putsAll_65 rfl ?_
          refine zJ_icmp_ge 101 dX13_putsAll_68 (by decide) (fun c68 => absurd c68 (nI_ge (by omega) (by omega))) (fun _ => ?_)
          refine zJ_aload_n dX13_putsAll_71 rfl ?_
          refine zP_getr lf_X13_79 (zSt_ob hs 74 13 rfl) rfl (zSt_rf hs 74 33 536 rfl) dX13_putsAll_72 ?_
          refine zJ_iload_n dX13_putsAll_75 rfl ?_
          refine zP_rowK (k := w) (zSt_g536 hs) (by omega) (by decide) dX13_putsAll_76 ?_
          refine zJ_iload dX13_putsAll_77 rfl ?_
          refine zJ_aload_n dX13_putsAll_79 rfl ?_
          refine zJ_aload_n dX13_putsAll_80 rfl ?_
          refine zJ_aload_n dX13_putsAll_81 rfl ?_
          refine zP_getr lf_X13_79 (zSt_ob hs 74 13 rfl) rfl (zSt_rf hs 74 33 536 rfl) dX13_putsAll_82 ?_
          refine zJ_iload_n dX13_putsAll_85 rfl ?_
          refine zP_rowK (k := w) (zSt_g536 hs) (by omega) (by decide) dX13_putsAll_86 ?_
          refine zJ_iload dX13_putsAll_87 rfl ?_
          refine zP_iald (zGr_ar (zSt_g536 hs) (i := w) (by omega)) (by first | assumption | with_reducible exact vp_in_nI (by omega) (by omega) | (simp (disch := omega) only [nI_add, pk_mul, pk_sub, pk_div, pk_rem, nI_clamp]; with_reducible exact vp_in_nI (by omega) (by omega))) dX13_putsAll_89 ?_
          refine zJ_iload_n dX13_putsAll_90 rfl ?_
          refine zP_callVi [_, _, _] _ lv_X13_466 (m_putsT (d := d - 1) (s := 520 + 519 * w + k) hl (by omega) hs hc (by omega) hsp (by omega)) (zSt_ob hs 74 13 rfl) rfl (by omega) (Nat.le_of_ble_eq_true rfl) rfl dX13_putsAll_91 ?_
          refine zP_iast (zGr_ar (zSt_g536 hs) (i := w) (by omega)) (by first | assumption | with_reducible exact vp_in_nI (by omega) (by omega) | (simp (disch := omega) only [nI_add, pk_mul, pk_sub, pk_div, pk_rem, nI_clamp]; with_reducible exact vp_in_nI (by omega) (by omega))) dX13_putsAll_94 ?_
          refine zJ_iinc1 dX13_putsAll_95 rfl (by decide) ?_
          refine zJ_goto 63 dX13_putsAll_98 (by decide) ?_
          rw [nI_clamp (by omega), hcv]
          refine zJ_back (zle_r (zle_r (zle_r (zle_r (zle_r zle_0))))) rfl (ih2 (k + 1) _ (by omega) ?_ (by rw [zup_row (by omega), zup_same, upd_at]; rfl) (fun j hj => by rw [zup_row (by omega), zup_row (by decide)]; exact h5 j hj) (fun v j hv hj => by rw [zup_row (by omega), zup_row (by omega)]; exact hB v j hv hj) (fun j hj => ?_))
          · rw [hQ]
            exact ⟨fun a q1 q2 q3 => by rw [zup_row (by omega), zup_row q1]; exact hK1.1 a q1 q2 q3, fun j q1 q2 => by rw [zup_row (by omega), zup_same, upd_ne q1]; exact hK1.2.1 j q1 q2, by rw [zup_row (by omega), zup_same, upd_ne (by decide)]; exact hK1.2.2⟩
          · rw [zup_same]
            by_cases z : j = k
            · rw [z, upd_at]
            · rw [upd_ne z, zup_row (by omega)]; exact hW j (by omega)
      refine zJ_iload_n dX13_putsAll_54 rfl ?_
      refine zJ_bipush (v := nI 16) dX13_putsAll_55 rfl ?_
      refine zJ_icmp_ge 107 dX13_putsAll_57 (by decide) (fun c57 => absurd c57 (nI_ge (by omega) (by omega))) (fun _ => ?_)
      refine zJ_iconst (v := nI 0) dX13_putsAll_60 rfl ?_
      refine zJ_istore dX13_putsAll_61 (Nat.le_of_ble_eq_true rfl) (by decide) ?_
      exact zJ_back (zle_r (zle_r (zle_r (zle_r (zle_r zle_0))))) rfl (inner 519 0 K (by omega) hK hsp h5 hB (fun j hj => absurd hj (Nat.not_lt_zero _)))
  have one : ∀ m k (K : zI), k + m = 519 → Q K → K 74 39 = nI (1 + k) → (∀ j, j < k → K 533 j = I c (1 + j)) → zJ l Xi mX13_putsAll d 0 0 21 [some (.ref 74), some (.ref c), some (.int (nI 1)), some (.int (nI k)), none] [] (K, g) P := by
    intro m
    induction m with
    | zero =>
      intro k K hk hK hsp h5
      obtain rfl : k = 519 := by omega
      refine zJ_iload_n dX13_putsAll_21 rfl ?_
      refine zJ_sipush (v := nI 519) dX13_putsAll_22 rfl ?_
      refine zJ_icmp_ge 52 dX13_putsAll_25 (by decide) (fun _ => ?_) (fun c25 => absurd (nI_le (by omega) (by omega)) c25)
      refine zJ_iconst (v := nI 0) dX13_putsAll_52 rfl ?_
      refine zJ_istore_m 3 dX13_putsAll_53 rfl (Nat.le_of_ble_eq_true rfl) (by decide) ?_
      exact zJ_back (zle_r (zle_r (zle_r (zle_r (zle_n zle_0))))) rfl (two 16 0 K (by omega) hK hsp h5 (fun v j hv => absurd hv (Nat.not_lt_zero _)))
    | succ m ih =>
      intro k K hk hK hsp h5
      have hK1 := hK
      rw [hQ] at hK1
      have hcv : K c (1 + k) = I c (1 + k) := by rw [hK1.1 c (by omega) (by omega) (by omega)]
      refine zJ_iload_n dX13_putsAll_21 rfl ?_
      refine zJ_sipush (v := nI 519) dX13_putsAll_22 rfl ?_
      refine zJ_icmp_ge 52 dX13_putsAll_25 (by decide) (fun c25 => absurd c25 (nI_ge (by omega) (by omega))) (fun _ => ?_)
      refine zJ_aload_n dX13_putsAll_28 rfl ?_
      refine zP_getr lf_X13_70 (zSt_ob hs 74 13 rfl) rfl (zSt_rf hs 74 30 533 rfl) dX13_putsAll_29 ?_
      refine zJ_iload_n dX13_putsAll_32 rfl ?_
      refine zJ_aload_n dX13_putsAll_33 rfl ?_
      refine zJ_aload_n dX13_putsAll_34 rfl ?_
      refine zJ_aload_n dX13_putsAll_35 rfl ?_
      refine zP_getr lf_X13_70 (zSt_ob hs 74 13 rfl) rfl (zSt_rf hs 74 30 533 rfl) dX13_putsAll_36 ?_
      refine zJ_iload_n dX13_putsAll_39 rfl ?_
      refine zP_iald (zSt_ar hs 533 519 rfl) (by first | assumption | with_reducible exact vp_in_nI (by omega) (by omega) | (simp (disch := omega) only [nI_add, pk_mul, pk_sub, pk_div, pk_rem, nI_clamp]; with_reducible exact vp_in_nI (by omega) (by omega))) dX13_putsAll_40 ?_
      refine zJ_iload_n dX13_putsAll_41 rfl ?_
      refine zP_callVi [_, _, _] _ lv_X13_466 (m_putsT (d := d - 1) (s := 1 + k) hl (by omega) hs hc (by omega) hsp (by omega)) (zSt_ob hs 74 13 rfl) rfl (by omega) (Nat.le_of_ble_eq_true rfl) rfl dX13_putsAll_42 ?_
      refine zP_iast (zSt_ar hs 533 519 rfl) (by first | assumption | with_reducible exact vp_in_nI (by omega) (by omega) | (simp (disch := omega) only [nI_add, pk_mul, pk_sub, pk_div, pk_rem, nI_clamp]; with_reducible exact vp_in_nI (by omega) (by omega))) dX13_putsAll_45 ?_
      refine zJ_iinc1 dX13_putsAll_46 rfl (by decide) ?_
      refine zJ_goto 21 dX13_putsAll_49 (by decide) ?_
      rw [nI_clamp (by omega), hcv]
      refine zJ_back (zle_r (zle_r (zle_r (zle_r (zle_n zle_0))))) rfl (ih (k + 1) _ (by omega) ?_ (by rw [zup_row (by decide), zup_same, upd_at]; rfl) (fun j hj => ?_))
      · rw [hQ]
        exact ⟨fun a q1 q2 q3 => by rw [zup_row q2, zup_row q1]; exact hK1.1 a q1 q2 q3, fun j q1 q2 => by rw [zup_row (by decide), zup_same, upd_ne q1]; exact hK1.2.1 j q1 q2, by rw [zup_row (by decide), zup_same, upd_ne (by decide)]; exact hK1.2.2⟩
      · rw [zup_same]
        by_cases z : j = k
        · rw [z, upd_at]
        · rw [upd_ne z, zup_row (by decide)]; exact h5 j (by omega)
  obtain ⟨K0, hK0⟩ : ∃ K, zup I 74 39 (nI 0) = K := ⟨_, rfl⟩
  have e0 : ∀ a, a ≠ 74 → K0 a = I a := fun a ha => by rw [← hK0, zup_row ha]
  have f0 : ∀ k, k ≠ 39 → K0 74 k = I 74 k := fun k hk => by rw [← hK0, zup_same, upd_ne hk]
  rw [← hP]
  refine zJ_aload_n dX13_putsAll_0 rfl ?_
  refine zJ_iconst (v := nI 0) dX13_putsAll_1 rfl ?_
  refine zP_puti lf_X13_463 (zSt_ob hs 74 13 rfl) rfl dX13_putsAll_2 ?_
  rw [hK0]
  refine zJ_aload_n dX13_putsAll_5 rfl ?_
  refine zJ_aload_n dX13_putsAll_6 rfl ?_
  refine zJ_aload_n dX13_putsAll_7 rfl ?_
  refine zJ_aload_n dX13_putsAll_8 rfl ?_
  refine zP_geti lf_X13_218 (zSt_ob hs 74 13 rfl) rfl dX13_putsAll_9 ?_
  refine zJ_iload_n dX13_putsAll_12 rfl ?_
  refine zP_callVi [_, _, _] _ lv_X13_466 (m_putsT (d := d - 1) (s := 0) hl (by omega) hs hc (by omega) (by rw [← hK0, zup_same, upd_at]) (by omega)) (zSt_ob hs 74 13 rfl) rfl (by omega) (Nat.le_of_ble_eq_true rfl) rfl dX13_putsAll_13 ?_
  refine zP_puti lf_X13_218 (zSt_ob hs 74 13 rfl) rfl dX13_putsAll_16 ?_
  refine zJ_iconst (v := nI 0) dX13_putsAll_19 rfl ?_
  refine zJ_istore_m 3 dX13_putsAll_20 rfl (Nat.le_of_ble_eq_true rfl) (by decide) ?_
  refine zJ_back (zle_r (zle_r (zle_r (zle_r (zle_n zle_0))))) rfl (one 519 0 _ (by omega) ?_ (by rw [zup_same, upd_ne (by decide), zup_same, upd_at]) (fun j hj => absurd hj (Nat.not_lt_zero _)))
  rw [hQ]
  exact ⟨fun a q1 q2 q3 => by rw [zup_row q1, zup_row q1]; exact e0 a q1, fun j q1 q2 => by rw [zup_same, upd_ne q2, zup_same, upd_ne q1]; exact f0 j q1, by rw [zup_same, upd_at, e0 c (by omega)]⟩
theorem rR_imF {c off : Nat} {J : zI} {b : zWo} {R : rwT} {a : Nat} (hN : bN b ≤ 6) (hR : rRow I a b R) (h : ∀ j, j < 519 → J c (off + j) = I a j) : kR J c off b R := ⟨fun k hk => (h k (by omega)).trans (hR.1 k hk), fun n hn => (h _ (by omega)).trans (hR.2.1 n hn), (h _ (by omega)).trans hR.2.2⟩
theorem m_image (hl : l.stackTraces = false) (hd : 12 ≤ d) (hs : zSt g) {S : sT} (hI : rI I S) : zEi l Xi mX13_image d [.ref 74] I g (fun v J => J 74 0 = nI 0 ∧ rO I J ∧ if 3 ≤ S.2.2.2.2.2.1.1 then v = -1 ∧ rI J S else v = nI (S.2.2.2.2.2.1.1 + 1) ∧ rI J (imgS S)) := by
  refine zC_of hl rfl rfl rfl (Nat.le_of_ble_eq_true rfl) (zav_r (zSt_ob hs 74 13 rfl).1 zav_0) ?_
  have hI0 := hI
  obtain ⟨h1, h2, h3, h4, h5, h6, h7, h8, h9, h10⟩ := hI
  have hN6 := h3.1.2.2.2.2.1
  have hm3 := h7.2.1
  have hw16 := h6.2.1
  by_cases hz : 3 ≤ S.2.2.2.2.2.1.1
  · simp only [if_pos hz]
    refine zJ_aload_n dX13_image_0 rfl ?_
    refine zJ_iconst (v := nI 0) dX13_image_1 rfl ?_
    refine zP_puti lf_X13_107 (zSt_ob hs 74 13 rfl) rfl dX13_image_2 ?_
    refine zJ_aload_n dX13_image_5 rfl ?_
    refine zP_geti lf_X13_224 (zSt_ob hs 74 13 rfl) rfl dX13_image_6 ?_
    rw [thr_ne (by decide), h7.1, show S.2.2.2.2.2.1.1 = 3 by omega]
    refine zJ_iconst (v := nI 3) dX13_image_9 rfl ?_
    refine zJ_icmp_ne 15 dX13_image_10 (by decide) (fun c10 => absurd rfl c10) (fun _ => ?_)
    refine zJ_iconst (v := -1) dX13_image_13 rfl ?_
    refine zJ_iret rfl dX13_image_14 ?_
    exact ⟨_, _, rfl, rfl, thr_at, rO_rQ rQ_thr, rfl, rI_rQ hI0 rQ_thr⟩
  simp only [if_neg hz]
  obtain ⟨m, hm⟩ : ∃ m, S.2.2.2.2.2.1.1 = m := ⟨_, rfl⟩
  rw [hm] at hz hm3
  have hmg : (zup I 74 0 (nI 0)) 74 38 = nI m := by rw [thr_ne (by decide), h7.1, hm]
  refine zJ_aload_n dX13_image_0 rfl ?_
  refine zJ_iconst (v := nI 0) dX13_image_1 rfl ?_
  refine zP_puti lf_X13_107 (zSt_ob hs 74 13 rfl) rfl dX13_image_2 ?_
  refine zJ_aload_n dX13_image_5 rfl ?_
  refine zP_geti lf_X13_224 (zSt_ob hs 74 13 rfl) rfl dX13_image_6 ?_
  rw [hmg]
  refine zJ_iconst (v := nI 3) dX13_image_9 rfl ?_
  refine zJ_icmp_ne 15 dX13_image_10 (by decide) (fun _ => ?_) (fun c10 => absurd c10 (fun z => hz (by have := (nI_eq (by omega) (by omega)).mp z; omega)))
  refine zJ_aload_n dX13_image_15 rfl ?_
  refine zJ_aload_n dX13_image_16 rfl ?_
  refine zP_getr lf_X13_82 (zSt_ob hs 74 13 rfl) rfl (zSt_rf hs 74 34 553 rfl) dX13_image_17 ?_
  refine zJ_aload_n dX13_image_20 rfl ?_
  refine zP_geti lf_X13_224 (zSt_ob hs 74 13 rfl) rfl dX13_image_21 ?_
  rw [hmg]
  refine zP_rowK (k := m) (zSt_g553 hs) (by omega) (by decide) dX13_image_24 ?_
  refine zJ_iconst (v := nI 0) dX13_image_25 rfl ?_
  refine zP_ecallVv [_, _] _ lv_X13_470 (m_putsAllF (d := d - 1) hl (by omega) hs (zGr_ar (zSt_g553 hs) (by omega)) (by omega)) (zSt_ob hs 74 13 rfl) rfl (by omega) (Nat.le_of_ble_eq_true rfl) rfl dX13_image_26 (fun J h => ?_)
  refine zJ_aload_n dX13_image_29 rfl ?_
  refine zJ_dup dX13_image_30 rfl ?_
  refine zP_geti lf_X13_224 (zSt_ob hs 74 13 rfl) rfl dX13_image_31 ?_
  rw [h.2.1 38 (by decide), hmg]
  refine zJ_iconst (v := nI 1) dX13_image_34 rfl ?_
  refine zJ_iadd dX13_image_35 ?_
  rw [nI_add]
  refine zP_puti lf_X13_224 (zSt_ob hs 74 13 rfl) rfl dX13_image_36 ?_
  refine zJ_aload_n dX13_image_39 rfl ?_
  refine zP_geti lf_X13_224 (zSt_ob hs 74 13 rfl) rfl dX13_image_40 ?_
  refine zJ_iret rfl dX13_image_43 ?_
  obtain ⟨p1, p2, p3⟩ := h
  obtain ⟨K, hK⟩ : ∃ K, zup J 74 38 (nI (m + 1)) = K := ⟨_, rfl⟩
  have e : ∀ a, a ≠ 74 → a ≠ 553 + 1 + m → K a = I a := fun a q1 q2 => by rw [← hK, zup_row q1, p1 a q1 q2, zup_row q1]
  have f : ∀ k, k ≠ 0 → k ≠ 39 → k ≠ 38 → K 74 k = I 74 k := fun k q0 q1 q2 => by rw [← hK, zup_same, upd_ne q2, p2 k q1, thr_ne q0]
  have k0 : K 74 0 = nI 0 := by rw [← hK, zup_same, upd_ne (by decide), p2 0 (by decide)]; exact thr_at
  have k38 : K 74 38 = nI (m + 1) := by rw [← hK, zup_same, upd_at]
  have kc : ∀ j, j < 8824 → K (553 + 1 + m) j = imF I j := fun j hj => by
    rw [← hK, zup_row (by omega), p3 j hj]
    unfold imF
    rw [thr_ne (by decide), zup_row (by decide), zup_row (by omega)]
  rw [hK]
  refine ⟨_, K, rfl, rfl, k0, fun a q => e a (by omega) (by omega), by rw [k38, hm], ?_⟩
  unfold imgS
  rw [hm]
  refine ⟨rTp_of h1 (f 1 (by decide) (by decide) (by decide)) (e 75 (by decide) (by omega)), by rw [f 3 (by decide) (by decide) (by decide)]; exact h2, rB_of h3 (f 20 (by decide) (by decide) (by decide)) (fun a ha => e a (by omega) (by omega)), rRow_of h4 (e 533 (by decide) (by omega)), rLn_of h5 (f 35 (by decide) (by decide) (by decide)) (fun a q1 q2 => e a (by omega) (by omega)), rWs_of h6 (f 36 (by decide) (by decide) (by decide)) (fun a q1 q2 => e a (by omega) (by omega)), ⟨k38, by show m + 1 ≤ 3; omega, fun k hk => ?_⟩, by rw [f 37 (by decide) (by decide) (by decide)]; exact h8, by rw [e 76 (by decide) (by omega)]; exact h9, by rw [e 76 (by decide) (by omega)]; exact h10⟩
  have hk2 : k < m + 1 := hk
  unfold un
  by_cases z : k = m
  · subst z
    simp only [if_true]
    refine ⟨?_, hw16, ?_, fun i hi => ?_⟩
    · rw [kc 0 (by omega)]; exact h6.1
    · exact rR_imF (a := 533) hN6 h4 (fun j hj => by rw [kc _ (by omega)]; unfold imF; rw [if_neg (by omega), if_pos (by omega), Nat.add_sub_cancel_left])
    · exact rR_imF (a := 536 + 1 + i) hN6 (h6.2.2 i hi) (fun j hj => by
        rw [kc _ (by omega)]; unfold imF
        rw [if_neg (by omega), if_neg (by omega), show (1 + 519 * (i + 1) + j - 520) / 519 = i by omega, show (1 + 519 * (i + 1) + j - 520) % 519 = j by omega])
  · simp only [if_neg z]
    have h9' := h7.2.2 k (by omega)
    unfold kR at h9' ⊢
    rw [e (553 + 1 + k) (by omega) (by omega)]
    exact h9'
theorem m_restore (hl : l.stackTraces = false) (hd : 12 ≤ d) (hs : zSt g) {S : sT} (hI : rI I S) : zEi l Xi mX13_restore d [.ref 74] I g (fun v J => J 74 0 = nI 0 ∧ rO I J ∧ if S.2.2.2.2.2.1.1 = 0 then v = -1 ∧ rI J S else v = nI (S.2.2.2.2.2.1.1 - 1) ∧ rI J (rstS S)) := by
  refine zC_of hl rfl rfl rfl (Nat.le_of_ble_eq_true rfl) (zav_r (zSt_ob hs 74 13 rfl).1 zav_0) ?_
  have hI0 := hI
  obtain ⟨h1, h2, h3, h4, h5, h6, h7, h8, h9, h10⟩ := hI
  have hN6 := h3.1.2.2.2.2.1
  have hm3 := h7.2.1
  by_cases hz : S.2.2.2.2.2.1.1 = 0
  · simp only [if_pos hz]
    refine zJ_aload_n dX13_restore_0 rfl ?_
    refine zJ_iconst (v := nI 0) dX13_restore_1 rfl ?_
    refine zP_puti lf_X13_107 (zSt_ob hs 74 13 rfl) rfl dX13_restore_2 ?_
    refine zJ_aload_n dX13_restore_5 rfl ?_
    refine zP_geti lf_X13_224 (zSt_ob hs 74 13 rfl) rfl dX13_restore_6 ?_
    rw [thr_ne (by decide), h7.1, hz]
    refine zJ_if_ne 14 dX13_restore_9 (by decide) (fun c9 => absurd rfl c9) (fun _ => ?_)
    refine zJ_iconst (v := -1) dX13_restore_12 rfl ?_
    refine zJ_iret rfl dX13_restore_13 ?_
    exact ⟨_, _, rfl, rfl, thr_at, rO_rQ rQ_thr, rfl, rI_rQ hI0 rQ_thr⟩
  simp only [if_neg hz]
  obtain ⟨m, hm⟩ : ∃ m, S.2.2.2.2.2.1.1 = m + 1 := ⟨S.2.2.2.2.2.1.1 - 1, by omega⟩
  have hmg : (zup I 74 0 (nI 0)) 74 38 = nI (m + 1) := by rw [thr_ne (by decide), h7.1, hm]
  obtain ⟨J1, hJ1⟩ : ∃ J, zup (zup I 74 0 (nI 0)) 74 38 (nI m) = J := ⟨_, rfl⟩
  have e1 : ∀ a, a ≠ 74 → J1 a = I a := fun a ha => by rw [← hJ1, zup_row ha, zup_row ha]
  have f1 : ∀ k, k ≠ 0 → k ≠ 38 → J1 74 k = I 74 k := fun k q1 q2 => by rw [← hJ1, zup_same, upd_ne q2, zup_same, upd_ne q1]
  have f0 : J1 74 0 = nI 0 := by rw [← hJ1, zup_same, upd_ne (by decide), zup_same, upd_at]
  have f38 : J1 74 38 = nI m := by rw [← hJ1, zup_same, upd_at]
  have hk := h7.2.2 m (by omega)
  refine zJ_aload_n dX13_restore_0 rfl ?_
  refine zJ_iconst (v := nI 0) dX13_restore_1 rfl ?_
  refine zP_puti lf_X13_107 (zSt_ob hs 74 13 rfl) rfl dX13_restore_2 ?_
  refine zJ_aload_n dX13_restore_5 rfl ?_
  refine zP_geti lf_X13_224 (zSt_ob hs 74 13 rfl) rfl dX13_restore_6 ?_
  rw [hmg]
  refine zJ_if_ne 14 dX13_restore_9 (by decide) (fun _ => ?_) (fun c9 => absurd c9 (nI_ne0 (by omega) (by omega)))
  refine zJ_aload_n dX13_restore_14 rfl ?_
  refine zJ_dup dX13_restore_15 rfl ?_
  refine zP_geti lf_X13_224 (zSt_ob hs 74 13 rfl) rfl dX13_restore_16 ?_
  refine zJ_iconst (v := nI 1) dX13_restore_19 rfl ?_
  rw [hmg]
  refine zJ_isub dX13_restore_20 ?_
  rw [pk_sub (by omega), Nat.add_sub_cancel]
  refine zP_puti lf_X13_224 (zSt_ob hs 74 13 rfl) rfl dX13_restore_21 ?_
  rw [hJ1]
  refine zJ_aload_n dX13_restore_24 rfl ?_
  refine zJ_aload_n dX13_restore_25 rfl ?_
  refine zP_getr lf_X13_82 (zSt_ob hs 74 13 rfl) rfl (zSt_rf hs 74 34 553 rfl) dX13_restore_26 ?_
  refine zJ_aload_n dX13_restore_29 rfl ?_
  refine zP_geti lf_X13_224 (zSt_ob hs 74 13 rfl) rfl dX13_restore_30 ?_
  rw [f38]
  refine zP_rowK (k := m) (zSt_g553 hs) (by omega) (by decide) dX13_restore_33 ?_
  refine zJ_iconst (v := nI 1) dX13_restore_34 rfl ?_
  refine zP_ecallVv [_, _] _ lv_X13_470 (m_putsAllT (d := d - 1) hl (by omega) hs (zGr_ar (zSt_g553 hs) (by omega)) (by omega)) (zSt_ob hs 74 13 rfl) rfl (by omega) (Nat.le_of_ble_eq_true rfl) rfl dX13_restore_35 (fun J h => ?_)
  refine zJ_aload_n dX13_restore_38 rfl ?_
  refine zJ_iconst (v := nI 0) dX13_restore_39 rfl ?_
  refine zP_puti lf_X13_221 (zSt_ob hs 74 13 rfl) rfl dX13_restore_40 ?_
  refine zJ_aload_n dX13_restore_43 rfl ?_
  refine zP_geti lf_X13_224 (zSt_ob hs 74 13 rfl) rfl dX13_restore_44 ?_
  refine zJ_iret rfl dX13_restore_47 ?_
  obtain ⟨p1, p2, p3, p4, p5⟩ := h
  obtain ⟨K, hK⟩ : ∃ K, zup J 74 37 (nI 0) = K := ⟨_, rfl⟩
  have e : ∀ a, a ≠ 74 → a ≠ 533 → (a < 537 ∨ 552 < a) → K a = I a := fun a q1 q2 q3 => by rw [← hK, zup_row q1, p1 a q1 q2 q3, e1 a q1]
  have f : ∀ k, k ≠ 0 → k ≠ 39 → k ≠ 38 → k ≠ 36 → k ≠ 37 → K 74 k = I 74 k := fun k q0 q1 q2 q3 q4 => by rw [← hK, zup_same, upd_ne q4, p2 k q1 q3, f1 k q0 q2]
  have k0 : K 74 0 = nI 0 := by rw [← hK, zup_same, upd_ne (by decide), p2 0 (by decide) (by decide)]; exact f0
  have k38 : K 74 38 = nI m := by rw [← hK, zup_same, upd_ne (by decide), p2 38 (by decide) (by decide)]; exact f38
  have k36 : K 74 36 = I (553 + 1 + m) 0 := by rw [← hK, zup_same, upd_ne (by decide), p3, e1 _ (by omega)]
  have k37 : K 74 37 = nI 0 := by rw [← hK, zup_same, upd_at]
  have kn : ∀ j, j < 519 → K 533 j = I (553 + 1 + m) (1 + j) := fun j hj => by rw [← hK, zup_row (by decide), p4 j hj, e1 _ (by omega)]
  have kb : ∀ w j, w < 16 → j < 519 → K (536 + 1 + w) j = I (553 + 1 + m) (520 + 519 * w + j) := fun w j hw hj => by rw [← hK, zup_row (by omega), p5 w j hw hj, e1 _ (by omega)]
  rw [hK]
  refine ⟨_, K, rfl, rfl, k0, fun a q => e a (by omega) (by omega) (by omega), by rw [k38, hm, Nat.add_sub_cancel], ?_⟩
  unfold rstS
  rw [hm, Nat.add_sub_cancel]
  obtain ⟨i1, i2, i3, i4⟩ := hk
  refine ⟨rTp_of h1 (f 1 (by decide) (by decide) (by decide) (by decide) (by decide)) (e 75 (by decide) (by decide) (by decide)), by rw [f 3 (by decide) (by decide) (by decide) (by decide) (by decide)]; exact h2, rB_of h3 (f 20 (by decide) (by decide) (by decide) (by decide) (by decide)) (fun a ha => e a (by omega) (by omega) (by omega)), ?_, rLn_of h5 (f 35 (by decide) (by decide) (by decide) (by decide) (by decide)) (fun a q1 q2 => e a (by omega) (by omega) (by omega)), ⟨k36.trans i1, i2, fun i hi => ?_⟩, ⟨k38, by show m ≤ 3; omega, fun k hk => ?_⟩, k37, by rw [e 76 (by decide) (by decide) (by decide)]; exact h9, by rw [e 76 (by decide) (by decide) (by decide)]; exact h10⟩
  · exact ⟨fun k hk => (kn k (by omega)).trans (i3.1 k hk), fun n hn => (kn _ (by have hn2 : n < bN S.2.1 := hn; omega)).trans (i3.2.1 n hn), (kn _ (by omega)).trans i3.2.2⟩
  · have i5 := i4 i hi
    have hi16 : i < 16 := Nat.lt_of_lt_of_le hi i2
    have ee : ∀ j, 520 + 519 * i + j = 1 + 519 * (i + 1) + j := fun j => by omega
    exact ⟨fun k hk => (kb i k hi16 (by omega)).trans (by rw [ee]; exact i5.1 k hk), fun n hn => (kb i _ hi16 (by have hn2 : n < bN S.2.1 := hn; omega)).trans (by rw [ee]; exact i5.2.1 n hn), (kb i _ hi16 (by omega)).trans (by rw [ee]; exact i5.2.2)⟩
  · have hk2 : k < m := hk
    have h9' := h7.2.2 k (by omega)
    unfold kR at h9' ⊢
    rw [e (553 + 1 + k) (by omega) (by omega) (by omega)]
    exact h9'
end ZRefAC
