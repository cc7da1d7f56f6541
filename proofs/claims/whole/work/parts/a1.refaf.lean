/-! ===== the reference: a board's clauses ===== -/
section ZRefAF
variable {l : Launch} {Xi : zXi} {d : Nat} {I : zI} {g : zG}
theorem m_placeTold (hl : l.stackTraces = false) (hd : 4 ≤ d) (hs : zSt g) {α : Type} {bs : Nat → Nat} {L : Nat} {r : PR α} {P : α → Prop} (h : rP I bs L r P) : zEi l Xi mX13_placeTold d [.ref 74] I g (fun x J => ft I J ∧ rP J bs L (pbind r fun x A => pbind (pPlace bs L A) fun y A => .inr ((x, y), A)) (fun q => P q.1 ∧ x = nI q.2 ∧ q.2 < 64)) := by
  refine zC_of hl rfl rfl rfl (Nat.le_of_ble_eq_true rfl) (zav_r (zSt_ob hs 74 13 rfl).1 zav_0) ?_
  refine zJ_aload_n dX13_placeTold_0 rfl ?_
  refine zJ_iconst (v := nI 0) dX13_placeTold_1 rfl ?_
  refine zJ_bipush (v := nI 7) dX13_placeTold_2 rfl ?_
  refine zP_ecallVi [_, _] _ lv_X13_169 (m_numP (lo := 0) (hi := 8) (d := d - 1) hl (by omega) hs h (by omega) (by omega) rfl (show nI 7 = nI 8 - nI 1 by decide)) (zSt_ob hs 74 13 rfl) rfl (by omega) (Nat.le_of_ble_eq_true rfl) rfl dX13_placeTold_4 (fun x1 J1 hx1 => ?_)
  refine zJ_istore_m 1 dX13_placeTold_7 rfl (Nat.le_of_ble_eq_true rfl) (by decide) ?_
  refine zJ_aload_n dX13_placeTold_8 rfl ?_
  refine zJ_iconst (v := nI 0) dX13_placeTold_9 rfl ?_
  refine zJ_bipush (v := nI 7) dX13_placeTold_10 rfl ?_
  refine zP_ecallVi [_, _] _ lv_X13_169 (m_numP (lo := 0) (hi := 8) (d := d - 1) hl (by omega) hs hx1.2 (by omega) (by omega) rfl (show nI 7 = nI 8 - nI 1 by decide)) (zSt_ob hs 74 13 rfl) rfl (by omega) (Nat.le_of_ble_eq_true rfl) rfl dX13_placeTold_12 (fun x2 J2 hx2 => ?_)
  refine zJ_istore_m 2 dX13_placeTold_15 rfl (Nat.le_of_ble_eq_true rfl) (by decide) ?_
  refine zJ_bipush (v := nI 8) dX13_placeTold_16 rfl ?_
  refine zJ_iload_n dX13_placeTold_18 rfl ?_
  refine zJ_imul dX13_placeTold_19 ?_
  refine zJ_iload_n dX13_placeTold_20 rfl ?_
  refine zJ_iadd dX13_placeTold_21 ?_
  refine zJ_iret rfl dX13_placeTold_22 ?_
  refine ⟨_, J2, rfl, rfl, ft_trans hx1.1 hx2.1, rP_map (fun q => (q.1.1, q.2 * 8 + q.1.2)) hx2.2 ?_ (fun q hq => ?_)⟩
  · simp only [pPlace, pbind_assoc, pbind_inr]
  · obtain ⟨⟨a1, a2, a3, a4⟩, a5, a6, a7⟩ := hq
    refine ⟨a1, ?_, ?_⟩
    · show _ = nI (q.2 * 8 + q.1.2)
      rw [a2, a5, pk_mul, nI_add, Nat.mul_comm]
    · show q.2 * 8 + q.1.2 < 64
      omega
/-- what the reference has read of a board -/
def rRb (I : zI) (r : zRb) : Prop := (I 77 0 = nI (rC r) ∧ I 77 1 = nI (rR r) ∧ I 77 2 = nI (rN r) ∧ I 77 3 = nI (rG r)) ∧ (∀ n, n < rN r → I (82 + 1 + n) 0 = nI (rcr r n) ∧ I (82 + 1 + n) 1 = nI (rlm r n) ∧ I (82 + 1 + n) 2 = nI (rpc r n)) ∧ (∀ n i, n < rN r → i < rpc r n → I (96 + 1 + n) i = nI (rpn r n i)) ∧ (∀ p, p < 64 → I 80 p = nI (rwd r p)) ∧ ∀ p, p < 64 → I 79 p = if rwl r p then 1 else 0
def fcl (I J : zI) : Prop := (∀ a, a ≠ 74 → a ≠ 77 → a ≠ 79 → a ≠ 80 → (a < 83 ∨ 88 < a) → (a < 97 ∨ 102 < a) → J a = I a) ∧ ∀ k, k ≠ 4 → k ≠ 5 → k ≠ 6 → k ≠ 7 → J 74 k = I 74 k
theorem fcl_rfl : fcl I I := ⟨fun _ _ _ _ _ _ _ => rfl, fun _ _ _ _ _ => rfl⟩
theorem fcl_trans {J K : zI} (h : fcl I J) (h2 : fcl J K) : fcl I K := ⟨fun a q1 q2 q3 q4 q5 q6 => (h2.1 a q1 q2 q3 q4 q5 q6).trans (h.1 a q1 q2 q3 q4 q5 q6), fun k q1 q2 q3 q4 => (h2.2 k q1 q2 q3 q4).trans (h.2 k q1 q2 q3 q4)⟩
theorem fcl_ft {J : zI} (h : ft I J) : fcl I J := ⟨fun a q1 _ _ _ _ _ => h.1 a q1, fun k q1 q2 q3 _ => h.2 k q1 q2 q3⟩
theorem fcl_zup {J : zI} {a k : Nat} {x : Int32} (h : fcl I J) (ha : a = 77 ∨ a = 79 ∨ a = 80 ∨ (83 ≤ a ∧ a ≤ 88) ∨ (97 ≤ a ∧ a ≤ 102)) : fcl I (zup J a k x) := ⟨fun c q1 q2 q3 q4 q5 q6 => (zup_row (by omega)).trans (h.1 c q1 q2 q3 q4 q5 q6), fun j q1 q2 q3 q4 => by rw [zup_row (by omega)]; exact h.2 j q1 q2 q3 q4⟩
theorem rRb_of {J : zI} {r : zRb} (hN : rN r ≤ 6) (h : rRb I r) (e : ∀ a, a = 77 ∨ a = 79 ∨ a = 80 ∨ (83 ≤ a ∧ a ≤ 88) ∨ (97 ≤ a ∧ a ≤ 102) → J a = I a) : rRb J r := by
  obtain ⟨h1, h2, h3, h4, h5⟩ := h
  refine ⟨by rw [e 77 (by decide)]; exact h1, fun n hn => by rw [e (82 + 1 + n) (by omega)]; exact h2 n hn, fun n i hn hi => by rw [e (96 + 1 + n) (by omega)]; exact h3 n i hn hi, by rw [e 80 (by decide)]; exact h4, by rw [e 79 (by decide)]; exact h5⟩
theorem rRb_ft {J : zI} {r : zRb} (hN : rN r ≤ 6) (h : rRb I r) (hf : ft I J) : rRb J r := rRb_of hN h (fun a ha => hf.1 a (by omega))
theorem rP_isE {α : Type} {bs : Nat → Nat} {L : Nat} {q : Nat × Nat} {P : α → Prop} (h : rP I bs L (.inl q : PR α) P) : ¬ I 74 5 = 0 := by
  obtain ⟨A, h1, -⟩ := h
  have := h1.2.2.2.2.2.2.1 q rfl
  rw [h1.2.2.2.2.1]
  exact nI_ne0 (by show 0 < q.1; omega) (by show q.1 < _; omega)
theorem rP_isO {α : Type} {bs : Nat → Nat} {L : Nat} {q : α × Nat} {P : α → Prop} (h : rP I bs L (.inr q : PR α) P) : I 74 5 = 0 := by
  obtain ⟨A, h1, -⟩ := h
  exact h1.2.2.2.2.1
theorem rP_chg {α β : Type} {bs : Nat → Nat} {L : Nat} {q : Nat × Nat} {P : α → Prop} {Q : β → Prop} (h : rP I bs L (.inl q : PR α) P) : rP I bs L (.inl q : PR β) Q := by
  obtain ⟨A, h1, -⟩ := h
  exact ⟨A, h1, fun x a z => by cases z⟩
theorem m_wrongP (hl : l.stackTraces = false) (hd : 1 ≤ d) (hs : zSt g) {α β : Type} {bs : Nat → Nat} {L k w : Nat} {r : PR α} {P : α → Prop} {Q : β → Prop} {x : Int32} (h : rP I bs L r P) (hk : 1 ≤ k) (hk3 : k ≤ 3) (hx : x = nI w) : zEv l Xi mX13_wrong d [.ref 74, .int (nI k), .int x] I g (fun J => ft I J ∧ rP J bs L (pbind r fun _ _ => (.inl (k, w) : PR β)) Q) := by
  obtain ⟨A, h1, h2⟩ := h
  refine zC_imp (m_wrong hl hd hs h1 hk hk3 hx) (fun r' h' hp => ?_)
  obtain ⟨e1, J, e2, e3, e4⟩ := hp
  refine ⟨e1, J, e2, e3, ?_⟩
  cases r with
  | inl q => exact ⟨A, e4, fun x a z => by cases z⟩
  | inr q => exact ⟨A, e4, fun x a z => by cases z⟩
set_option maxHeartbeats 1000000 in
theorem m_pinClause (hl : l.stackTraces = false) (hd : 5 ≤ d) (hs : zSt g) {bs : Nat → Nat} {L A : Nat} {r : zRb} (h : rz I bs L A none) (hr : rRb I r) (hok : rbOk r) : zEv l Xi mX13_pinClause d [.ref 74] I g (fun J => fcl I J ∧ J 74 7 = I 74 7 ∧ rP J bs L (pbind (pBody bs L 4 r A) fun r A => pbind (pSign bs L 59 A) fun _ A => .inr (r, A)) (fun r' => rRb J r' ∧ rbOk r')) := by
  refine zC_of hl rfl rfl rfl (Nat.le_of_ble_eq_true rfl) (zav_r (zSt_ob hs 74 13 rfl).1 zav_0) ?_
  have hN6 := hok.1.2.2.2.2.1
  obtain ⟨Q, hQ⟩ : ∃ Q : zR → zH → Prop, Q = (fun r' h' => r' = .inl none ∧ ∃ I', h' = (I', g) ∧ fcl I I' ∧ I' 74 7 = I 74 7 ∧ rP I' bs L (pbind (pBody bs L 4 r A) fun r A => pbind (pSign bs L 59 A) fun _ A => .inr (r, A)) (fun r' => rRb I' r' ∧ rbOk r')) := ⟨_, rfl⟩
  have hE : pBody bs L 4 r A = pbind (pNum bs L 0 (rN r) A) fun n A' => if 4 ≤ rpc r n then .inl (3, sk bs L A) else pbind (pPlace bs L A') fun p A => .inr ((r.1, rcr r, rlm r, un (rpc r) n (rpc r n + 1), un (rpn r) n (un (rpn r n) (rpc r n) p), rwd r, rwl r), A) := rfl
  -- behind a fault, or one pin too many
  have bad : ∀ (J : zI) (x y : Int32) (q : Nat × Nat), ft I J → rP J bs L (.inl q : PR Unit) (fun _ => True) → (pbind (pBody bs L 4 r A) fun r A => pbind (pSign bs L 59 A) fun _ A => .inr (r, A)) = .inl q → zJ l Xi mX13_pinClause d 0 0 48 [some (.ref 74), some (.int x), some (.int y), none] [] (J, g) Q := by
    intro J x y q hf hp he
    rw [hQ, he]
    refine zJ_aload_n dX13_pinClause_48 rfl ?_
    refine zP_ecallVi [] _ lv_X13_173 (m_placeTold (d := d - 1) hl (by omega) hs hp) (zSt_ob hs 74 13 rfl) rfl (by omega) (Nat.le_of_ble_eq_true rfl) rfl dX13_pinClause_49 (fun x3 J3 hx3 => ?_)
    refine zJ_istore_m 3 dX13_pinClause_52 rfl (Nat.le_of_ble_eq_true rfl) (by decide) ?_
    refine zJ_aload_n dX13_pinClause_53 rfl ?_
    refine zJ_bipush (v := nI 59) dX13_pinClause_54 rfl ?_
    refine zP_ecallVv [_] _ lv_X13_176 (m_signP (d := d - 1) hl (by omega) hs hx3.2 (by omega)) (zSt_ob hs 74 13 rfl) rfl (by omega) (Nat.le_of_ble_eq_true rfl) rfl dX13_pinClause_56 (fun J4 h4 => ?_)
    refine zJ_aload_n dX13_pinClause_59 rfl ?_
    refine zP_geti lf_X13_123 (zSt_ob hs 74 13 rfl) rfl dX13_pinClause_60 ?_
    refine zJ_if_eq 67 dX13_pinClause_63 (by decide) (fun c63 => absurd c63 (rP_isE (q := q) h4.2)) (fun _ => ?_)
    refine zJ_vret rfl dX13_pinClause_66 ?_
    have hff := ft_trans (ft_trans hf hx3.1) h4.1
    exact ⟨rfl, J4, rfl, fcl_ft hff, hff.2 7 (by decide) (by decide) (by decide), rP_chg (q := q) h4.2⟩
  rw [← hQ]
  refine zJ_aload_n dX13_pinClause_0 rfl ?_
  refine zP_ecallVv [] _ lv_X13_129 (m_blanks (d := d - 1) hl (by omega) hs h) (zSt_ob hs 74 13 rfl) rfl (by omega) (Nat.le_of_ble_eq_true rfl) rfl dX13_pinClause_1 (fun J hJ => ?_)
  obtain ⟨hf, hz⟩ := hJ
  have hrJ := rRb_ft hN6 hr hf
  refine zJ_aload_n dX13_pinClause_4 rfl ?_
  refine zP_geti lf_X13_116 (zSt_ob hs 74 13 rfl) rfl dX13_pinClause_5 ?_
  rw [hz.2.2.1]
  refine zJ_istore_m 1 dX13_pinClause_8 rfl (Nat.le_of_ble_eq_true rfl) (by decide) ?_
  refine zJ_aload_n dX13_pinClause_9 rfl ?_
  refine zJ_iconst (v := nI 0) dX13_pinClause_10 rfl ?_
  refine zJ_aload_n dX13_pinClause_11 rfl ?_
  refine zP_getr lf_X13_20 (zSt_ob hs 74 13 rfl) rfl (zSt_rf hs 74 11 77 rfl) dX13_pinClause_12 ?_
  refine zJ_iconst (v := nI 2) dX13_pinClause_15 rfl ?_
  refine zP_iald (zSt_ar hs 77 4 rfl) (by first | assumption | with_reducible exact vp_in_nI (by omega) (by omega) | (simp (disch := omega) only [nI_add, pk_mul, pk_sub, pk_div, pk_rem, nI_clamp]; with_reducible exact vp_in_nI (by omega) (by omega))) dX13_pinClause_16 ?_
  rw [nI_clamp (by omega), hrJ.1.2.2.1]
  refine zJ_iconst (v := nI 1) dX13_pinClause_17 rfl ?_
  refine zJ_isub dX13_pinClause_18 ?_
  refine zP_ecallVi [_, _] _ lv_X13_169 (m_number0 (hi := rN r) (lo := 0) (d := d - 1) hl (by omega) hs hz (by omega) (by omega) rfl rfl) (zSt_ob hs 74 13 rfl) rfl (by omega) (Nat.le_of_ble_eq_true rfl) rfl dX13_pinClause_19 (fun x1 J1 hx1 => ?_)
  refine zJ_istore_m 2 dX13_pinClause_22 rfl (Nat.le_of_ble_eq_true rfl) (by decide) ?_
  obtain ⟨hf1, hp1⟩ := hx1
  have hff := ft_trans hf hf1
  have hrJ1 := rRb_ft hN6 hr hff
  have hnsk : pNum bs L 0 (rN r) (sk bs L A) = pNum bs L 0 (rN r) A := by unfold pNum nuX nuV nuE; rw [sk_sk]
  rw [hnsk] at hp1
  cases hpn : pNum bs L 0 (rN r) A with
  | inl q =>
    rw [hpn] at hp1
    refine zJ_aload_n dX13_pinClause_23 rfl ?_
    refine zP_geti lf_X13_123 (zSt_ob hs 74 13 rfl) rfl dX13_pinClause_24 ?_
    refine zJ_if_ne 48 dX13_pinClause_27 (by decide) (fun _ => ?_) (fun c27 => absurd c27 (rP_isE (q := q) hp1))
    exact bad J1 _ _ q hff (rP_chg (q := q) hp1) (by rw [hE, hpn]; rfl)
  | inr qn =>
    obtain ⟨n, A1⟩ := qn
    rw [hpn] at hp1
    obtain ⟨hz1, hx1, -, hn⟩ := rP_ok hp1
    subst hx1
    have hpc := (hrJ1.2.1 n hn).2.2
    have hpc4 := (hok.2.1 n (by omega)).1
    by_cases h4 : 4 ≤ rpc r n
    · skip
      refine zJ_aload_n dX13_pinClause_23 rfl ?_
      refine zP_geti lf_X13_123 (zSt_ob hs 74 13 rfl) rfl dX13_pinClause_24 ?_
      refine zJ_if_ne 48 dX13_pinClause_27 (by decide) (fun c27 => absurd (rP_isO hp1) c27) (fun _ => ?_)
      refine zJ_aload_n dX13_pinClause_30 rfl ?_
      refine zP_getr lf_X13_37 (zSt_ob hs 74 13 rfl) rfl (zSt_rf hs 74 16 82 rfl) dX13_pinClause_31 ?_
      refine zJ_iload_n dX13_pinClause_34 rfl ?_
      refine zP_rowK (k := n) (zSt_g82 hs) (by omega) (by decide) dX13_pinClause_35 ?_
      refine zJ_iconst (v := nI 2) dX13_pinClause_36 rfl ?_
      refine zP_iald (zGr_ar (zSt_g82 hs) (i := n) (by omega)) (by first | assumption | with_reducible exact vp_in_nI (by omega) (by omega) | (simp (disch := omega) only [nI_add, pk_mul, pk_sub, pk_div, pk_rem, nI_clamp]; with_reducible exact vp_in_nI (by omega) (by omega))) dX13_pinClause_37 ?_
      rw [nI_clamp (by omega), hpc, show rpc r n = 4 by omega]
      refine zJ_iconst (v := nI 4) dX13_pinClause_38 rfl ?_
      refine zJ_icmp_ne 48 dX13_pinClause_39 (by decide) (fun c39 => absurd rfl c39) (fun _ => ?_)
      refine zJ_aload_n dX13_pinClause_42 rfl ?_
      refine zJ_iconst (v := nI 3) dX13_pinClause_43 rfl ?_
      refine zJ_iload_n dX13_pinClause_44 rfl ?_
      refine zP_ecallVv [_, _] _ lv_X13_136 (m_wrongP (β := Unit) (Q := fun _ => True) (w := sk bs L A) (d := d - 1) hl (by omega) hs hp1 (by omega) (by omega) rfl) (zSt_ob hs 74 13 rfl) rfl (by omega) (Nat.le_of_ble_eq_true rfl) rfl dX13_pinClause_45 (fun J2 h2 => ?_)
      exact bad J2 _ _ (3, sk bs L A) (ft_trans hff h2.1) h2.2 (by rw [hE, hpn, pbind_inr, if_pos h4]; rfl)
    · have hE2 : (pbind (pBody bs L 4 r A) fun r A => pbind (pSign bs L 59 A) fun _ A => (.inr (r, A) : PR zRb)) = pbind (pbind (pbind (.inr (n, A1) : PR Nat) fun x A => pbind (pPlace bs L A) fun y A => (.inr ((x, y), A) : PR (Nat × Nat))) fun x A => pbind (pSign bs L 59 A) fun _ A => (.inr (x, A) : PR (Nat × Nat))) fun q A => .inr ((r.1, rcr r, rlm r, un (rpc r) q.1 (rpc r q.1 + 1), un (rpn r) q.1 (un (rpn r q.1) (rpc r q.1) q.2), rwd r, rwl r), A) := by
        rw [hE, hpn, pbind_inr, if_neg h4]
        simp only [pbind_assoc, pbind_inr]
      refine zJ_aload_n dX13_pinClause_23 rfl ?_
      refine zP_geti lf_X13_123 (zSt_ob hs 74 13 rfl) rfl dX13_pinClause_24 ?_
      refine zJ_if_ne 48 dX13_pinClause_27 (by decide) (fun c27 => absurd (rP_isO hp1) c27) (fun _ => ?_)
      refine zJ_aload_n dX13_pinClause_30 rfl ?_
      refine zP_getr lf_X13_37 (zSt_ob hs 74 13 rfl) rfl (zSt_rf hs 74 16 82 rfl) dX13_pinClause_31 ?_
      refine zJ_iload_n dX13_pinClause_34 rfl ?_
      refine zP_rowK (k := n) (zSt_g82 hs) (by omega) (by decide) dX13_pinClause_35 ?_
      refine zJ_iconst (v := nI 2) dX13_pinClause_36 rfl ?_
      refine zP_iald (zGr_ar (zSt_g82 hs) (i := n) (by omega)) (by first | assumption | with_reducible exact vp_in_nI (by omega) (by omega) | (simp (disch := omega) only [nI_add, pk_mul, pk_sub, pk_div, pk_rem, nI_clamp]; with_reducible exact vp_in_nI (by omega) (by omega))) dX13_pinClause_37 ?_
      rw [nI_clamp (by omega), hpc]
      refine zJ_iconst (v := nI 4) dX13_pinClause_38 rfl ?_
      refine zJ_icmp_ne 48 dX13_pinClause_39 (by decide) (fun _ => ?_) (fun c39 => absurd c39 (fun z => h4 (by have := (nI_eq (by omega) (by omega)).mp z; omega)))
      refine zJ_aload_n dX13_pinClause_48 rfl ?_
      refine zP_ecallVi [] _ lv_X13_173 (m_placeTold (P := fun x => x = n) (d := d - 1) hl (by omega) hs (rP_mk hz1 rfl)) (zSt_ob hs 74 13 rfl) rfl (by omega) (Nat.le_of_ble_eq_true rfl) rfl dX13_pinClause_49 (fun x3 J3 hx3 => ?_)
      refine zJ_istore_m 3 dX13_pinClause_52 rfl (Nat.le_of_ble_eq_true rfl) (by decide) ?_
      refine zJ_aload_n dX13_pinClause_53 rfl ?_
      refine zJ_bipush (v := nI 59) dX13_pinClause_54 rfl ?_
      refine zP_ecallVv [_] _ lv_X13_176 (m_signP (d := d - 1) hl (by omega) hs hx3.2 (by omega)) (zSt_ob hs 74 13 rfl) rfl (by omega) (Nat.le_of_ble_eq_true rfl) rfl dX13_pinClause_56 (fun J4 h4 => ?_)
      have hf4 := ft_trans (ft_trans hff hx3.1) h4.1
      have hr4 := rRb_ft hN6 hr hf4
      have hp4 := h4.2
      rw [hQ, hE2]
      obtain ⟨R4, hR4⟩ : ∃ R, (pbind (pbind (.inr (n, A1) : PR Nat) fun x A => pbind (pPlace bs L A) fun y A => (.inr ((x, y), A) : PR (Nat × Nat))) fun x A => pbind (pSign bs L 59 A) fun _ A => (.inr (x, A) : PR (Nat × Nat))) = R := ⟨_, rfl⟩
      rw [hR4] at hp4 ⊢
      cases R4 with
      | inl q =>
        refine zJ_aload_n dX13_pinClause_59 rfl ?_
        refine zP_geti lf_X13_123 (zSt_ob hs 74 13 rfl) rfl dX13_pinClause_60 ?_
        refine zJ_if_eq 67 dX13_pinClause_63 (by decide) (fun c63 => absurd c63 (rP_isE (q := q) hp4)) (fun _ => ?_)
        refine zJ_vret rfl dX13_pinClause_66 ?_
        exact ⟨rfl, J4, rfl, fcl_ft hf4, hf4.2 7 (by decide) (by decide) (by decide), rP_chg (q := q) hp4⟩
      | inr q =>
        obtain ⟨hz4, hq1, hq2, hq3⟩ := rP_ok (a := q.2) (x := q.1) hp4
        have hpc' := (hr4.2.1 n hn).2.2
        rw [hq2]
        refine zJ_aload_n dX13_pinClause_59 rfl ?_
        refine zP_geti lf_X13_123 (zSt_ob hs 74 13 rfl) rfl dX13_pinClause_60 ?_
        refine zJ_if_eq 67 dX13_pinClause_63 (by decide) (fun _ => ?_) (fun c63 => absurd (rP_isO hp4) c63)
        refine zJ_aload_n dX13_pinClause_67 rfl ?_
        refine zP_getr lf_X13_43 (zSt_ob hs 74 13 rfl) rfl (zSt_rf hs 74 18 96 rfl) dX13_pinClause_68 ?_
        refine zJ_iload_n dX13_pinClause_71 rfl ?_
        refine zP_rowK (k := n) (zSt_g96 hs) (by omega) (by decide) dX13_pinClause_72 ?_
        refine zJ_aload_n dX13_pinClause_73 rfl ?_
        refine zP_getr lf_X13_37 (zSt_ob hs 74 13 rfl) rfl (zSt_rf hs 74 16 82 rfl) dX13_pinClause_74 ?_
        refine zJ_iload_n dX13_pinClause_77 rfl ?_
        refine zP_rowK (k := n) (zSt_g82 hs) (by omega) (by decide) dX13_pinClause_78 ?_
        refine zJ_iconst (v := nI 2) dX13_pinClause_79 rfl ?_
        refine zP_iald (zGr_ar (zSt_g82 hs) (i := n) (by omega)) (by first | assumption | with_reducible exact vp_in_nI (by omega) (by omega) | (simp (disch := omega) only [nI_add, pk_mul, pk_sub, pk_div, pk_rem, nI_clamp]; with_reducible exact vp_in_nI (by omega) (by omega))) dX13_pinClause_80 ?_
        rw [nI_clamp (by omega), hpc']
        refine zJ_iload_n dX13_pinClause_81 rfl ?_
        refine zP_iast (zGr_ar (zSt_g96 hs) (i := n) (by omega)) (vp_in_nI (by omega) (by omega)) dX13_pinClause_82 ?_
        refine zJ_aload_n dX13_pinClause_83 rfl ?_
        refine zP_getr lf_X13_37 (zSt_ob hs 74 13 rfl) rfl (zSt_rf hs 74 16 82 rfl) dX13_pinClause_84 ?_
        refine zJ_iload_n dX13_pinClause_87 rfl ?_
        refine zP_rowK (k := n) (zSt_g82 hs) (by omega) (by decide) dX13_pinClause_88 ?_
        refine zJ_iconst (v := nI 2) dX13_pinClause_89 rfl ?_
        refine zJ_dup2 dX13_pinClause_90 rfl rfl ?_
        refine zP_iald (zGr_ar (zSt_g82 hs) (i := n) (by omega)) (by first | assumption | with_reducible exact vp_in_nI (by omega) (by omega) | (simp (disch := omega) only [nI_add, pk_mul, pk_sub, pk_div, pk_rem, nI_clamp]; with_reducible exact vp_in_nI (by omega) (by omega))) dX13_pinClause_91 ?_
        rw [nI_clamp (by omega), zup_row (by omega), nI_clamp (by omega), hpc']
        refine zJ_iconst (v := nI 1) dX13_pinClause_92 rfl ?_
        refine zJ_iadd dX13_pinClause_93 ?_
        rw [nI_add]
        refine zP_iast (zGr_ar (zSt_g82 hs) (i := n) (by omega)) (by first | assumption | with_reducible exact vp_in_nI (by omega) (by omega) | (simp (disch := omega) only [nI_add, pk_mul, pk_sub, pk_div, pk_rem, nI_clamp]; with_reducible exact vp_in_nI (by omega) (by omega))) dX13_pinClause_94 ?_
        refine zJ_vret rfl dX13_pinClause_95 ?_
        rw [nI_clamp (by omega)]
        obtain ⟨K, hK⟩ : ∃ K, zup (zup J4 (96 + 1 + n) (rpc r n) (nI q.1.2)) (82 + 1 + n) 2 (nI (rpc r n + 1)) = K := ⟨_, rfl⟩
        have eK : ∀ a, a ≠ 96 + 1 + n → a ≠ 82 + 1 + n → K a = J4 a := fun a q1 q2 => by rw [← hK, zup_row q2, zup_row q1]
        have e1 : ∀ j, K (82 + 1 + n) j = if j = 2 then nI (rpc r n + 1) else J4 (82 + 1 + n) j := fun j => by
          rw [← hK, zup_same]
          by_cases z : j = 2
          · rw [z, upd_at, if_pos rfl]
          · rw [upd_ne z, if_neg z, zup_row (by omega)]
        have e2 : ∀ j, K (96 + 1 + n) j = if j = rpc r n then nI q.1.2 else J4 (96 + 1 + n) j := fun j => by
          rw [← hK, zup_row (by omega), zup_same]
          by_cases z : j = rpc r n
          · rw [z, upd_at, if_pos rfl]
          · rw [upd_ne z, if_neg z]
        refine ⟨rfl, K, by first | rw [hK] | rw [← hK], ?_, ?_, ?_⟩
        · rw [← hK]; exact fcl_zup (fcl_zup (fcl_ft hf4) (by omega)) (by omega)
        · rw [eK 74 (by omega) (by omega)]; exact hf4.2 7 (by decide) (by decide) (by decide)
        · simp only [pbind]
          refine rP_mk (rz_of hz4 (fun k _ => by rw [eK 74 (by omega) (by omega)]) (eK 75 (by omega) (by omega))) ?_
          rw [hq1]
          obtain ⟨a1, a2, a3, a4, a5⟩ := hr4
          refine ⟨⟨by rw [eK 77 (by omega) (by omega)]; exact a1, fun m hm => ?_, fun m i hm hi => ?_, fun p hp => by rw [eK 80 (by omega) (by omega)]; exact a4 p hp, fun p hp => by rw [eK 79 (by omega) (by omega)]; exact a5 p hp⟩, hok.1, fun m hm => ?_, fun m i hm hi => ?_, hok.2.2.2⟩
          · have hm2 : m < rN r := hm
            show K (82 + 1 + m) 0 = nI (rcr r m) ∧ K (82 + 1 + m) 1 = nI (rlm r m) ∧ K (82 + 1 + m) 2 = nI (un (rpc r) n (rpc r n + 1) m)
            by_cases z : m = n
            · subst z
              rw [un_at, e1 0, e1 1, e1 2]
              exact ⟨(a2 m hm).1, (a2 m hm).2.1, rfl⟩
            · rw [un_ne z, eK _ (by omega) (by omega)]; exact a2 m hm
          · have hm2 : m < rN r := hm
            have hi' : i < un (rpc r) n (rpc r n + 1) m := hi
            show K (96 + 1 + m) i = nI (un (rpn r) n (un (rpn r n) (rpc r n) q.1.2) m i)
            by_cases z : m = n
            · subst z
              rw [un_at] at hi' ⊢
              rw [e2 i]
              by_cases y : i = rpc r m
              · rw [if_pos y, y, un_at]
              · rw [if_neg y, un_ne y]; exact a3 m i hm (by omega)
            · rw [un_ne z] at hi' ⊢
              rw [eK _ (by omega) (by omega)]; exact a3 m i hm hi'
          · show un (rpc r) n (rpc r n + 1) m ≤ 4 ∧ (rN r ≤ m → un (rpc r) n (rpc r n + 1) m = 0)
            by_cases z : m = n
            · rw [z, un_at]; exact ⟨by omega, fun z => by omega⟩
            · rw [un_ne z]; exact hok.2.1 m hm
          · have hi' : i < un (rpc r) n (rpc r n + 1) m := hi
            show un (rpn r) n (un (rpn r n) (rpc r n) q.1.2) m i < 64
            by_cases z : m = n
            · subst z
              rw [un_at] at hi' ⊢
              by_cases y : i = rpc r m
              · rw [y, un_at]; exact hq3
              · rw [un_ne y]; exact hok.2.2.1 m i hm (by omega)
            · rw [un_ne z] at hi' ⊢; exact hok.2.2.1 m i hm hi'
end ZRefAF
