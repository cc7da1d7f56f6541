/-! ===== the reference: a board begins anew ===== -/
section ZRefAH
variable {l : Launch} {Xi : zXi} {d : Nat} {I : zI} {g : zG}
def tdQ (I : zI) (C R : Nat) : Prop := I 78 0 = nI C ∧ I 78 1 = nI R ∧ 1 ≤ C ∧ C ≤ 8 ∧ 1 ≤ R ∧ R ≤ 8
theorem m_isWithin2 (hl : l.stackTraces = false) (hd : 2 ≤ d) (hs : zSt g) {C R : Nat} (hB : tdQ I C R) {x y : Int32} : zD l Xi mX13_isWithin d [.ref 74, .int x, .int y] I g (some (.int (if (decide (¬ x < nI 0 ∧ x ≤ nI (C - 1)) && decide (¬ y < nI 0 ∧ y ≤ nI (R - 1))) then 1 else 0))) I := by
  refine zC_of hl rfl rfl rfl (Nat.le_of_ble_eq_true rfl) (zav_r (zSt_ob hs 74 13 rfl).1 (zav_i (zav_i zav_0))) ?_
  obtain ⟨t0, t1, h1, h2, h3, h4⟩ := hB
  have e0 : I 78 (nI 0).toNatClampNeg = nI C := by rw [nI_clamp (by omega)]; exact t0
  have e1 : I 78 (nI 1).toNatClampNeg = nI R := by rw [nI_clamp (by omega)]; exact t1
  refine zJ_iload_n dX13_isWithin_0 rfl ?_
  refine zJ_iconst (v := nI 0) dX13_isWithin_1 rfl ?_
  refine zJ_aload_n dX13_isWithin_2 rfl ?_
  refine zP_getr lf_X13_23 (zSt_ob hs 74 13 rfl) rfl (zSt_rf hs 74 12 78 rfl) dX13_isWithin_3 ?_
  refine zJ_iconst (v := nI 0) dX13_isWithin_6 rfl ?_
  refine zP_iald (zSt_ar hs 78 4 rfl) (by first | assumption | with_reducible exact vp_in_nI (by omega) (by omega) | (simp (disch := omega) only [nI_add, pk_mul, pk_sub, pk_div, pk_rem, nI_clamp]; with_reducible exact vp_in_nI (by omega) (by omega))) dX13_isWithin_7 ?_
  refine zJ_iconst (v := nI 1) dX13_isWithin_8 rfl ?_
  rw [e0]
  refine zJ_isub dX13_isWithin_9 ?_
  rw [pk_sub (by omega)]
  refine zP_callSi [_, _, _] _ ls_X13_141 (k_in (d := d - 1) hl (by omega)) rfl (by omega) (Nat.le_of_ble_eq_true rfl) rfl dX13_isWithin_10 ?_
  refine zJ_if_eq 36 dX13_isWithin_13 (by decide) (fun c13 => ?_) (fun c13 => ?_)
  · replace c13 := zb0.mp c13
    refine zJ_iconst (v := nI 0) dX13_isWithin_36 rfl ?_
    refine zJ_zret rfl (by decide) dX13_isWithin_37 ?_
    exact ⟨by rw [c13]; rfl, rfl⟩
  · replace c13 := zb1.mp c13
    refine zJ_iload_n dX13_isWithin_16 rfl ?_
    refine zJ_iconst (v := nI 0) dX13_isWithin_17 rfl ?_
    refine zJ_aload_n dX13_isWithin_18 rfl ?_
    refine zP_getr lf_X13_23 (zSt_ob hs 74 13 rfl) rfl (zSt_rf hs 74 12 78 rfl) dX13_isWithin_19 ?_
    refine zJ_iconst (v := nI 1) dX13_isWithin_22 rfl ?_
    refine zP_iald (zSt_ar hs 78 4 rfl) (by first | assumption | with_reducible exact vp_in_nI (by omega) (by omega) | (simp (disch := omega) only [nI_add, pk_mul, pk_sub, pk_div, pk_rem, nI_clamp]; with_reducible exact vp_in_nI (by omega) (by omega))) dX13_isWithin_23 ?_
    refine zJ_iconst (v := nI 1) dX13_isWithin_24 rfl ?_
    rw [e1]
    refine zJ_isub dX13_isWithin_25 ?_
    rw [pk_sub (by omega)]
    refine zP_callSi [_, _, _] _ ls_X13_141 (k_in (d := d - 1) hl (by omega)) rfl (by omega) (Nat.le_of_ble_eq_true rfl) rfl dX13_isWithin_26 ?_
    refine zJ_if_eq 36 dX13_isWithin_29 (by decide) (fun c29 => ?_) (fun c29 => ?_)
    · replace c29 := zb0.mp c29
      refine zJ_iconst (v := nI 0) dX13_isWithin_36 rfl ?_
      refine zJ_zret rfl (by decide) dX13_isWithin_37 ?_
      exact ⟨by rw [c13, c29]; rfl, rfl⟩
    · replace c29 := zb1.mp c29
      refine zJ_iconst (v := nI 1) dX13_isWithin_32 rfl ?_
      refine zJ_goto 37 dX13_isWithin_33 (by decide) ?_
      refine zJ_zret rfl (by decide) dX13_isWithin_37 ?_
      exact ⟨by rw [c13, c29]; rfl, rfl⟩
theorem m_isHere2 (hl : l.stackTraces = false) (hd : 3 ≤ d) (hs : zSt g) {C R : Nat} (hB : tdQ I C R) {p : Nat} (hp : p < 64) : zD l Xi mX13_isHere d [.ref 74, .int (nI p)] I g (some (.int (if insB C R p then 1 else 0))) I := by
  refine zC_of hl rfl rfl rfl (Nat.le_of_ble_eq_true rfl) (zav_r (zSt_ob hs 74 13 rfl).1 (zav_i zav_0)) ?_
  have hB0 := hB
  obtain ⟨t0, t1, h1, h2, h3, h4⟩ := hB
  refine zJ_aload_n dX13_isHere_0 rfl ?_
  refine zJ_iload_n dX13_isHere_1 rfl ?_
  refine zJ_bipush (v := nI 8) dX13_isHere_2 rfl ?_
  refine zJ_irem dX13_isHere_4 (by decide) ?_
  rw [pk_rem (by omega) (by omega) (by omega)]
  refine zJ_iload_n dX13_isHere_5 rfl ?_
  refine zJ_bipush (v := nI 8) dX13_isHere_6 rfl ?_
  refine zJ_idiv dX13_isHere_8 (by decide) ?_
  rw [pk_div (by omega) (by omega) (by omega)]
  refine zP_callVi [_, _] _ lv_X13_281 (m_isWithin2 (d := d - 1) hl (by omega) hs hB0) (zSt_ob hs 74 13 rfl) rfl (by omega) (Nat.le_of_ble_eq_true rfl) rfl dX13_isHere_9 ?_
  refine zJ_zret rfl zbr dX13_isHere_12 ?_
  refine ⟨?_, rfl⟩
  rw [wiT (by omega) (by omega) (by omega), wiT (by omega) (by omega) (by omega)]
  rfl
theorem ct_any {q : List Nat} {x : Nat} : q.contains x = anyB (fun i => decide (q.getD i 0 = x)) q.length := by
  rw [Bool.eq_iff_iff, anyB_iff, List.contains_iff_mem]
  constructor
  · intro h
    obtain ⟨i, hi, he⟩ := List.getElem_of_mem h
    refine ⟨i, hi, decide_eq_true ?_⟩
    rw [List.getD_eq_getElem?_getD, List.getElem?_eq_getElem hi]
    exact he
  · rintro ⟨i, hi, he⟩
    have h9 := of_decide_eq_true he
    rw [List.getD_eq_getElem?_getD, List.getElem?_eq_getElem hi] at h9
    rw [← h9]
    exact List.getElem_mem hi
/-- the pins of a net so far -/
def pnQ (I : zI) (n : Nat) (q : List Nat) : Prop := I (89 + 1 + n) 2 = nI q.length ∧ q.length ≤ 4 ∧ ∀ i, i < q.length → I (103 + 1 + n) i = nI (q.getD i 0) ∧ q.getD i 0 < 64
theorem pnQ_of {J : zI} {n : Nat} {q : List Nat} (h : pnQ I n q) (e1 : J (89 + 1 + n) 2 = I (89 + 1 + n) 2) (e2 : J (103 + 1 + n) = I (103 + 1 + n)) : pnQ J n q := by
  unfold pnQ at *
  rw [e1, e2]; exact h
theorem m_isPin2 (hl : l.stackTraces = false) (hd : 1 ≤ d) (hs : zSt g) {ps : List Nat} {n q : Nat} (hB : pnQ I n ps) (hn : n < 6) (hq : q < 64) : zD l Xi mX13_isPin d [.ref 74, .int (nI n), .int (nI q)] I g (some (.int (if ps.contains q then 1 else 0))) I := by
  refine zC_of hl rfl rfl rfl (Nat.le_of_ble_eq_true rfl) (zav_r (zSt_ob hs 74 13 rfl).1 (zav_i (zav_i zav_0))) ?_
  obtain ⟨h0, h4, hpp⟩ := hB
  have hc : I (89 + 1 + n) (nI 2).toNatClampNeg = nI ps.length := by rw [nI_clamp (by omega)]; exact h0
  rw [ct_any]
  have loop : ∀ m p, p + m = ps.length → anyB (fun i => decide (ps.getD i 0 = q)) p = false → zJ l Xi mX13_isPin d 0 0 2 [some (.ref 74), some (.int (nI n)), some (.int (nI q)), some (.int (nI p))] [] (I, g) (fun r' h' => r' = .inl (some (.int (if anyB (fun i => decide (ps.getD i 0 = q)) ps.length then 1 else 0))) ∧ h' = (I, g)) := by
    intro m
    induction m with
    | zero =>
      intro p hp hI
      obtain rfl : p = ps.length := by omega
      refine zJ_iload_n dX13_isPin_2 rfl ?_
      refine zJ_aload_n dX13_isPin_3 rfl ?_
      refine zP_getr lf_X13_40 (zSt_ob hs 74 13 rfl) rfl (zSt_rf hs 74 17 89 rfl) dX13_isPin_4 ?_
      refine zJ_iload_n dX13_isPin_7 rfl ?_
      refine zP_rowK (k := n) (zSt_g89 hs) (by omega) (by decide) dX13_isPin_8 ?_
      refine zJ_iconst (v := nI 2) dX13_isPin_9 rfl ?_
      refine zP_iald (zGr_ar (zSt_g89 hs) (i := n) (by omega)) (by first | assumption | with_reducible exact vp_in_nI (by omega) (by omega) | (simp (disch := omega) only [nI_add, pk_mul, pk_sub, pk_div, pk_rem, nI_clamp]; with_reducible exact vp_in_nI (by omega) (by omega))) dX13_isPin_10 ?_
      refine zJ_icmp_ge 34 dX13_isPin_11 (by decide) (fun _ => ?_) (fun c11 => absurd (by rw [hc]; exact nI_le (by omega) (by omega)) c11)
      refine zJ_iconst (v := nI 0) dX13_isPin_34 rfl ?_
      refine zJ_zret rfl (by decide) dX13_isPin_35 ?_
      exact ⟨by rw [hI]; rfl, rfl⟩
    | succ m ih =>
      intro p hp hI
      have hpin := hpp p (by omega)
      refine zJ_iload_n dX13_isPin_2 rfl ?_
      refine zJ_aload_n dX13_isPin_3 rfl ?_
      refine zP_getr lf_X13_40 (zSt_ob hs 74 13 rfl) rfl (zSt_rf hs 74 17 89 rfl) dX13_isPin_4 ?_
      refine zJ_iload_n dX13_isPin_7 rfl ?_
      refine zP_rowK (k := n) (zSt_g89 hs) (by omega) (by decide) dX13_isPin_8 ?_
      refine zJ_iconst (v := nI 2) dX13_isPin_9 rfl ?_
      refine zP_iald (zGr_ar (zSt_g89 hs) (i := n) (by omega)) (by first | assumption | with_reducible exact vp_in_nI (by omega) (by omega) | (simp (disch := omega) only [nI_add, pk_mul, pk_sub, pk_div, pk_rem, nI_clamp]; with_reducible exact vp_in_nI (by omega) (by omega))) dX13_isPin_10 ?_
      refine zJ_icmp_ge 34 dX13_isPin_11 (by decide) (fun c11 => absurd c11 (by rw [hc]; exact nI_ge (by omega) (by omega))) (fun _ => ?_)
      refine zJ_aload_n dX13_isPin_14 rfl ?_
      refine zP_getr lf_X13_46 (zSt_ob hs 74 13 rfl) rfl (zSt_rf hs 74 19 103 rfl) dX13_isPin_15 ?_
      refine zJ_iload_n dX13_isPin_18 rfl ?_
      refine zP_rowK (k := n) (zSt_g103 hs) (by omega) (by decide) dX13_isPin_19 ?_
      refine zJ_iload_n dX13_isPin_20 rfl ?_
      refine zP_iald (zGr_ar (zSt_g103 hs) (i := n) (by omega)) (by first | assumption | with_reducible exact vp_in_nI (by omega) (by omega) | (simp (disch := omega) only [nI_add, pk_mul, pk_sub, pk_div, pk_rem, nI_clamp]; with_reducible exact vp_in_nI (by omega) (by omega))) dX13_isPin_21 ?_
      rw [nI_clamp (by omega), hpin.1]
      refine zJ_iload_n dX13_isPin_22 rfl ?_
      refine zJ_icmp_ne 28 dX13_isPin_23 (by decide) (fun c23 => ?_) (fun c23 => ?_)
      · skip
        refine zJ_iinc1 dX13_isPin_28 rfl (by decide) ?_
        refine zJ_goto 2 dX13_isPin_31 (by decide) ?_
        refine zJ_back (zle_r (zle_r (zle_r (zle_r zle_0)))) rfl (ih (p + 1) (by omega) ?_)
        show (anyB (fun i => decide (ps.getD i 0 = q)) p || decide (ps.getD p 0 = q)) = false
        rw [hI, Bool.false_or]
        exact decide_eq_false (fun e => c23 (by rw [e]))
      · skip
        refine zJ_iconst (v := nI 1) dX13_isPin_26 rfl ?_
        refine zJ_zret rfl (by decide) dX13_isPin_27 ?_
        have e : anyB (fun i => decide (ps.getD i 0 = q)) ps.length = true := anyB_iff.mpr ⟨p, by omega, decide_eq_true ((nI_eq (by have := hpin.2; omega) (by omega)).mp c23)⟩
        exact ⟨by rw [e]; rfl, rfl⟩
  refine zJ_iconst (v := nI 0) dX13_isPin_0 rfl ?_
  refine zJ_istore_m 3 dX13_isPin_1 rfl (Nat.le_of_ble_eq_true rfl) (by decide) ?_
  exact loop ps.length 0 (by omega) rfl
theorem m_pinned2 (hl : l.stackTraces = false) (hd : 2 ≤ d) (hs : zSt g) {pl : Nat → List Nat} {N q : Nat} (hN0 : I 78 2 = nI N) (hN6 : N ≤ 6) (hB : ∀ n, n < N → pnQ I n (pl n)) (hq : q < 64) : zD l Xi mX13_pinned d [.ref 74, .int (nI q)] I g (some (.int (bitF (fun n => (pl n).contains q) N))) I := by
  refine zC_of hl rfl rfl rfl (Nat.le_of_ble_eq_true rfl) (zav_r (zSt_ob hs 74 13 rfl).1 (zav_i zav_0)) ?_
  have hN : I 78 (nI 2).toNatClampNeg = nI N := by rw [nI_clamp (by omega)]; exact hN0
  have loop : ∀ m p, p + m = N → zJ l Xi mX13_pinned d 0 0 4 [some (.ref 74), some (.int (nI q)), some (.int (bitF (fun n => (pl n).contains q) p)), some (.int (nI p))] [] (I, g) (fun r' h' => r' = .inl (some (.int (bitF (fun n => (pl n).contains q) N))) ∧ h' = (I, g)) := by
    intro m
    induction m with
    | zero =>
      intro p hp
      obtain rfl : p = N := by omega
      refine zJ_iload_n dX13_pinned_4 rfl ?_
      refine zJ_aload_n dX13_pinned_5 rfl ?_
      refine zP_getr lf_X13_23 (zSt_ob hs 74 13 rfl) rfl (zSt_rf hs 74 12 78 rfl) dX13_pinned_6 ?_
      refine zJ_iconst (v := nI 2) dX13_pinned_9 rfl ?_
      refine zP_iald (zSt_ar hs 78 4 rfl) (by first | assumption | with_reducible exact vp_in_nI (by omega) (by omega) | (simp (disch := omega) only [nI_add, pk_mul, pk_sub, pk_div, pk_rem, nI_clamp]; with_reducible exact vp_in_nI (by omega) (by omega))) dX13_pinned_10 ?_
      refine zJ_icmp_ge 39 dX13_pinned_11 (by decide) (fun _ => ?_) (fun c11 => absurd (by rw [hN]; exact nI_le (by omega) (by omega)) c11)
      refine zJ_iload_n dX13_pinned_39 rfl ?_
      refine zJ_iret rfl dX13_pinned_40 ?_
      exact ⟨rfl, rfl⟩
    | succ m ih =>
      intro p hp
      refine zJ_iload_n dX13_pinned_4 rfl ?_
      refine zJ_aload_n dX13_pinned_5 rfl ?_
      refine zP_getr lf_X13_23 (zSt_ob hs 74 13 rfl) rfl (zSt_rf hs 74 12 78 rfl) dX13_pinned_6 ?_
      refine zJ_iconst (v := nI 2) dX13_pinned_9 rfl ?_
      refine zP_iald (zSt_ar hs 78 4 rfl) (by first | assumption | with_reducible exact vp_in_nI (by omega) (by omega) | (simp (disch := omega) only [nI_add, pk_mul, pk_sub, pk_div, pk_rem, nI_clamp]; with_reducible exact vp_in_nI (by omega) (by omega))) dX13_pinned_10 ?_
      refine zJ_icmp_ge 39 dX13_pinned_11 (by decide) (fun c11 => absurd c11 (by rw [hN]; exact nI_ge (by omega) (by omega))) (fun _ => ?_)
      refine zJ_iload_n dX13_pinned_14 rfl ?_
      refine zJ_aload_n dX13_pinned_15 rfl ?_
      refine zJ_iload_n dX13_pinned_16 rfl ?_
      refine zJ_iload_n dX13_pinned_17 rfl ?_
      refine zP_callVi [_, _] _ lv_X13_202 (m_isPin2 (d := d - 1) hl (by omega) hs (hB p (by omega)) (by omega) hq) (zSt_ob hs 74 13 rfl) rfl (by omega) (Nat.le_of_ble_eq_true rfl) rfl dX13_pinned_18 ?_
      refine zJ_if_eq 30 dX13_pinned_21 (by decide) (fun c21 => ?_) (fun c21 => ?_)
      · replace c21 := zb0.mp c21
        refine zJ_iconst (v := nI 0) dX13_pinned_30 rfl ?_
        refine zJ_ior dX13_pinned_31 ?_
        refine zJ_istore_m 2 dX13_pinned_32 rfl (Nat.le_of_ble_eq_true rfl) (by decide) ?_
        refine zJ_iinc1 dX13_pinned_33 rfl (by decide) ?_
        refine zJ_goto 4 dX13_pinned_36 (by decide) ?_
        refine zJ_back (zle_r (zle_r (zle_i ?_ (zle_r zle_0)))) rfl (ih (p + 1) (by omega))
        rw [← bitF_no (f := fun n => (pl n).contains q) c21]; simp [nI0]
      · replace c21 := zb1.mp c21
        refine zJ_iconst (v := nI 1) dX13_pinned_24 rfl ?_
        refine zJ_iload_n dX13_pinned_25 rfl ?_
        refine zJ_ishl dX13_pinned_26 ?_
        refine zJ_goto 31 dX13_pinned_27 (by decide) ?_
        refine zJ_ior dX13_pinned_31 ?_
        refine zJ_istore_m 2 dX13_pinned_32 rfl (Nat.le_of_ble_eq_true rfl) (by decide) ?_
        refine zJ_iinc1 dX13_pinned_33 rfl (by decide) ?_
        refine zJ_goto 4 dX13_pinned_36 (by decide) ?_
        exact zJ_back (zle_r (zle_r (zle_i (bitF_yes (f := fun n => (pl n).contains q) c21).symm (zle_r zle_0)))) rfl (ih (p + 1) (by omega))
  refine zJ_iconst (v := nI 0) dX13_pinned_0 rfl ?_
  refine zJ_istore_m 2 dX13_pinned_1 rfl (Nat.le_of_ble_eq_true rfl) (by decide) ?_
  refine zJ_iconst (v := nI 0) dX13_pinned_2 rfl ?_
  refine zJ_istore_m 3 dX13_pinned_3 rfl (Nat.le_of_ble_eq_true rfl) (by decide) ?_
  exact loop N 0 (by omega)
set_option maxHeartbeats 1000000 in
theorem m_laysPins (hl : l.stackTraces = false) (hd : 4 ≤ d) (hs : zSt g) {C R n pc : Nat} {pn : Nat → Nat} (hB : tdQ I C R) (hn : n < 6) (hpc : I (82 + 1 + n) 2 = nI pc) (h4 : pc ≤ 4) (hpn : ∀ i, i < pc → I (96 + 1 + n) i = nI (pn i) ∧ pn i < 64) : zEv l Xi mX13_laysPins d [.ref 74, .int (nI n)] I g (fun J => (∀ a, a ≠ 89 + 1 + n → a ≠ 103 + 1 + n → J a = I a) ∧ (∀ k, k ≠ 2 → J (89 + 1 + n) k = I (89 + 1 + n) k) ∧ pnQ J n (kpL C R pn pc)) := by
  refine zC_of hl rfl rfl rfl (Nat.le_of_ble_eq_true rfl) (zav_r (zSt_ob hs 74 13 rfl).1 (zav_i zav_0)) ?_
  have loop : ∀ m k (J : zI), k + m = pc → (∀ a, a ≠ 89 + 1 + n → a ≠ 103 + 1 + n → J a = I a) → (∀ k, k ≠ 2 → J (89 + 1 + n) k = I (89 + 1 + n) k) → pnQ J n (kpL C R pn k) → zJ l Xi mX13_laysPins d 0 0 11 [some (.ref 74), some (.int (nI n)), some (.int (nI k)), none] [] (J, g) (fun r' h' => r' = .inl none ∧ ∃ I', h' = (I', g) ∧ (∀ a, a ≠ 89 + 1 + n → a ≠ 103 + 1 + n → I' a = I a) ∧ (∀ k, k ≠ 2 → I' (89 + 1 + n) k = I (89 + 1 + n) k) ∧ pnQ I' n (kpL C R pn pc)) := by
    intro m
    induction m with
    | zero =>
      intro k J hk e1 e2 hq
      obtain rfl : k = pc := by omega
      have hc : J (82 + 1 + n) (nI 2).toNatClampNeg = nI k := by rw [nI_clamp (by omega), e1 _ (by omega) (by omega)]; exact hpc
      refine zJ_iload_n dX13_laysPins_11 rfl ?_
      refine zJ_aload_n dX13_laysPins_12 rfl ?_
      refine zP_getr lf_X13_37 (zSt_ob hs 74 13 rfl) rfl (zSt_rf hs 74 16 82 rfl) dX13_laysPins_13 ?_
      refine zJ_iload_n dX13_laysPins_16 rfl ?_
      refine zP_rowK (k := n) (zSt_g82 hs) (by omega) (by decide) dX13_laysPins_17 ?_
      refine zJ_iconst (v := nI 2) dX13_laysPins_18 rfl ?_
      refine zP_iald (zGr_ar (zSt_g82 hs) (i := n) (by omega)) (by first | assumption | with_reducible exact vp_in_nI (by omega) (by omega) | (simp (disch := omega) only [nI_add, pk_mul, pk_sub, pk_div, pk_rem, nI_clamp]; with_reducible exact vp_in_nI (by omega) (by omega))) dX13_laysPins_19 ?_
      refine zJ_icmp_ge 86 dX13_laysPins_20 (by decide) (fun _ => ?_) (fun c20 => absurd (by rw [hc]; exact nI_le (by omega) (by omega)) c20)
      refine zJ_vret rfl dX13_laysPins_86 ?_
      exact ⟨rfl, J, rfl, e1, e2, hq⟩
    | succ m ih =>
      intro k J hk e1 e2 hq
      have hc : J (82 + 1 + n) (nI 2).toNatClampNeg = nI pc := by rw [nI_clamp (by omega), e1 _ (by omega) (by omega)]; exact hpc
      have hpk := hpn k (by omega)
      have hpJ : J (96 + 1 + n) k = nI (pn k) := by rw [e1 _ (by omega) (by omega)]; exact hpk.1
      have hBJ : tdQ J C R := by unfold tdQ at *; rw [e1 78 (by omega) (by omega)]; exact hB
      have hlen := kpL_len (C := C) (R := R) (pn := pn) (i := k)
      have hst : kpL C R pn (k + 1) = if insB C R (pn k) && !((kpL C R pn k).contains (pn k)) then kpL C R pn k ++ [pn k] else kpL C R pn k := rfl
      obtain ⟨q, hqq⟩ : ∃ q, kpL C R pn k = q := ⟨_, rfl⟩
      rw [hqq] at hq hlen hst
      have IH := fun K => ih (k + 1) K (by omega)
      rw [hst] at IH
      refine zJ_iload_n dX13_laysPins_11 rfl ?_
      refine zJ_aload_n dX13_laysPins_12 rfl ?_
      refine zP_getr lf_X13_37 (zSt_ob hs 74 13 rfl) rfl (zSt_rf hs 74 16 82 rfl) dX13_laysPins_13 ?_
      refine zJ_iload_n dX13_laysPins_16 rfl ?_
      refine zP_rowK (k := n) (zSt_g82 hs) (by omega) (by decide) dX13_laysPins_17 ?_
      refine zJ_iconst (v := nI 2) dX13_laysPins_18 rfl ?_
      refine zP_iald (zGr_ar (zSt_g82 hs) (i := n) (by omega)) (by first | assumption | with_reducible exact vp_in_nI (by omega) (by omega) | (simp (disch := omega) only [nI_add, pk_mul, pk_sub, pk_div, pk_rem, nI_clamp]; with_reducible exact vp_in_nI (by omega) (by omega))) dX13_laysPins_19 ?_
      refine zJ_icmp_ge 86 dX13_laysPins_20 (by decide) (fun c20 => absurd c20 (by rw [hc]; exact nI_ge (by omega) (by omega))) (fun _ => ?_)
      refine zJ_aload_n dX13_laysPins_23 rfl ?_
      refine zP_getr lf_X13_43 (zSt_ob hs 74 13 rfl) rfl (zSt_rf hs 74 18 96 rfl) dX13_laysPins_24 ?_
      refine zJ_iload_n dX13_laysPins_27 rfl ?_
      refine zP_rowK (k := n) (zSt_g96 hs) (by omega) (by decide) dX13_laysPins_28 ?_
      refine zJ_iload_n dX13_laysPins_29 rfl ?_
      refine zP_iald (zGr_ar (zSt_g96 hs) (i := n) (by omega)) (by first | assumption | with_reducible exact vp_in_nI (by omega) (by omega) | (simp (disch := omega) only [nI_add, pk_mul, pk_sub, pk_div, pk_rem, nI_clamp]; with_reducible exact vp_in_nI (by omega) (by omega))) dX13_laysPins_30 ?_
      rw [nI_clamp (by omega), hpJ]
      refine zJ_istore_m 3 dX13_laysPins_31 rfl (Nat.le_of_ble_eq_true rfl) (by decide) ?_
      refine zJ_aload_n dX13_laysPins_32 rfl ?_
      refine zJ_iload_n dX13_laysPins_33 rfl ?_
      refine zP_callVi [_] _ lv_X13_199 (m_isHere2 (d := d - 1) hl (by omega) hs hBJ hpk.2) (zSt_ob hs 74 13 rfl) rfl (by omega) (Nat.le_of_ble_eq_true rfl) rfl dX13_laysPins_34 ?_
      refine zJ_if_eq 80 dX13_laysPins_37 (by decide) (fun c37 => ?_) (fun c37 => ?_)
      · replace c37 := zb0.mp c37
        refine zJ_iinc1 dX13_laysPins_80 rfl (by decide) ?_
        refine zJ_goto 11 dX13_laysPins_83 (by decide) ?_
        rw [c37, Bool.false_and, if_neg (by decide)] at IH
        exact zJ_back (zle_r (zle_r (zle_r (zle_n zle_0)))) rfl (IH J e1 e2 hq)
      · replace c37 := zb1.mp c37
        refine zJ_aload_n dX13_laysPins_40 rfl ?_
        refine zJ_iload_n dX13_laysPins_41 rfl ?_
        refine zJ_iload_n dX13_laysPins_42 rfl ?_
        refine zP_callVi [_, _] _ lv_X13_202 (m_isPin2 (d := d - 1) hl (by omega) hs hq hn hpk.2) (zSt_ob hs 74 13 rfl) rfl (by omega) (Nat.le_of_ble_eq_true rfl) rfl dX13_laysPins_43 ?_
        refine zJ_if_eq 52 dX13_laysPins_46 (by decide) (fun c46 => ?_) (fun c46 => ?_)
        · replace c46 := zb0.mp c46
          refine zJ_aload_n dX13_laysPins_52 rfl ?_
          refine zP_getr lf_X13_46 (zSt_ob hs 74 13 rfl) rfl (zSt_rf hs 74 19 103 rfl) dX13_laysPins_53 ?_
          refine zJ_iload_n dX13_laysPins_56 rfl ?_
          refine zP_rowK (k := n) (zSt_g103 hs) (by omega) (by decide) dX13_laysPins_57 ?_
          refine zJ_aload_n dX13_laysPins_58 rfl ?_
          refine zP_getr lf_X13_40 (zSt_ob hs 74 13 rfl) rfl (zSt_rf hs 74 17 89 rfl) dX13_laysPins_59 ?_
          refine zJ_iload_n dX13_laysPins_62 rfl ?_
          refine zP_rowK (k := n) (zSt_g89 hs) (by omega) (by decide) dX13_laysPins_63 ?_
          refine zJ_iconst (v := nI 2) dX13_laysPins_64 rfl ?_
          refine zP_iald (zGr_ar (zSt_g89 hs) (i := n) (by omega)) (by first | assumption | with_reducible exact vp_in_nI (by omega) (by omega) | (simp (disch := omega) only [nI_add, pk_mul, pk_sub, pk_div, pk_rem, nI_clamp]; with_reducible exact vp_in_nI (by omega) (by omega))) dX13_laysPins_65 ?_
          rw [nI_clamp (by omega), hq.1]
          refine zJ_iload_n dX13_laysPins_66 rfl ?_
          refine zP_iast (zGr_ar (zSt_g103 hs) (i := n) (by omega)) (vp_in_nI (by omega) (by omega)) dX13_laysPins_67 ?_
          refine zJ_aload_n dX13_laysPins_68 rfl ?_
          refine zP_getr lf_X13_40 (zSt_ob hs 74 13 rfl) rfl (zSt_rf hs 74 17 89 rfl) dX13_laysPins_69 ?_
          refine zJ_iload_n dX13_laysPins_72 rfl ?_
          refine zP_rowK (k := n) (zSt_g89 hs) (by omega) (by decide) dX13_laysPins_73 ?_
          refine zJ_iconst (v := nI 2) dX13_laysPins_74 rfl ?_
          refine zJ_dup2 dX13_laysPins_75 rfl rfl ?_
          refine zP_iald (zGr_ar (zSt_g89 hs) (i := n) (by omega)) (by first | assumption | with_reducible exact vp_in_nI (by omega) (by omega) | (simp (disch := omega) only [nI_add, pk_mul, pk_sub, pk_div, pk_rem, nI_clamp]; with_reducible exact vp_in_nI (by omega) (by omega))) dX13_laysPins_76 ?_
          rw [nI_clamp (by omega), nI_clamp (by omega), zup_row (by omega), hq.1]
          refine zJ_iconst (v := nI 1) dX13_laysPins_77 rfl ?_
          refine zJ_iadd dX13_laysPins_78 ?_
          rw [nI_add]
          refine zP_iast (zGr_ar (zSt_g89 hs) (i := n) (by omega)) (by first | assumption | with_reducible exact vp_in_nI (by omega) (by omega) | (simp (disch := omega) only [nI_add, pk_mul, pk_sub, pk_div, pk_rem, nI_clamp]; with_reducible exact vp_in_nI (by omega) (by omega))) dX13_laysPins_79 ?_
          refine zJ_iinc1 dX13_laysPins_80 rfl (by decide) ?_
          refine zJ_goto 11 dX13_laysPins_83 (by decide) ?_
          rw [c37, c46, if_pos (by decide)] at IH
          rw [nI_clamp (by omega)]
          refine zJ_back (zle_r (zle_r (zle_r (zle_n zle_0)))) rfl (IH _ (fun a q1 q2 => by rw [zup_row q1, zup_row q2]; exact e1 a q1 q2) (fun j hj => by rw [zup_same, upd_ne hj, zup_row (by omega)]; exact e2 j hj) ⟨by rw [zup_same, upd_at, List.length_append, List.length_singleton], by rw [List.length_append, List.length_singleton]; omega, fun i hi => ?_⟩)
          rw [List.length_append, List.length_singleton] at hi
          rw [zup_row (by omega), zup_same]
          by_cases z : i = q.length
          · subst z
            rw [upd_at, List.getD_eq_getElem?_getD, List.getElem?_append_right (Nat.le_refl _), Nat.sub_self]
            exact ⟨rfl, hpk.2⟩
          · rw [upd_ne z, List.getD_eq_getElem?_getD, List.getElem?_append_left (by omega), ← List.getD_eq_getElem?_getD]
            exact hq.2.2 i (by omega)
        · replace c46 := zb1.mp c46
          refine zJ_goto 80 dX13_laysPins_49 (by decide) ?_
          refine zJ_iinc1 dX13_laysPins_80 rfl (by decide) ?_
          refine zJ_goto 11 dX13_laysPins_83 (by decide) ?_
          rw [c46, Bool.not_true, Bool.and_false, if_neg (by decide)] at IH
          exact zJ_back (zle_r (zle_r (zle_r (zle_n zle_0)))) rfl (IH J e1 e2 hq)
  refine zJ_aload_n dX13_laysPins_0 rfl ?_
  refine zP_getr lf_X13_40 (zSt_ob hs 74 13 rfl) rfl (zSt_rf hs 74 17 89 rfl) dX13_laysPins_1 ?_
  refine zJ_iload_n dX13_laysPins_4 rfl ?_
  refine zP_rowK (k := n) (zSt_g89 hs) (by omega) (by decide) dX13_laysPins_5 ?_
  refine zJ_iconst (v := nI 2) dX13_laysPins_6 rfl ?_
  refine zJ_iconst (v := nI 0) dX13_laysPins_7 rfl ?_
  refine zP_iast (zGr_ar (zSt_g89 hs) (i := n) (by omega)) (by first | assumption | with_reducible exact vp_in_nI (by omega) (by omega) | (simp (disch := omega) only [nI_add, pk_mul, pk_sub, pk_div, pk_rem, nI_clamp]; with_reducible exact vp_in_nI (by omega) (by omega))) dX13_laysPins_8 ?_
  refine zJ_iconst (v := nI 0) dX13_laysPins_9 rfl ?_
  refine zJ_istore_m 2 dX13_laysPins_10 rfl (Nat.le_of_ble_eq_true rfl) (by decide) ?_
  rw [nI_clamp (by omega)]
  exact zJ_back (zle_r (zle_r (zle_r (zle_n zle_0)))) rfl (loop pc 0 _ (by omega) (fun a q1 q2 => zup_row q1) (fun k hk => by rw [zup_same, upd_ne hk]) ⟨by rw [zup_same, upd_at]; rfl, Nat.zero_le _, fun i hi => absurd hi (Nat.not_lt_zero _)⟩)
def fba (I J : zI) : Prop := (∀ a, a ≠ 74 → a ≠ 78 → a ≠ 81 → (a < 90 ∨ 95 < a) → (a < 104 ∨ 109 < a) → a ≠ 533 → J a = I a) ∧ ∀ k, k ≠ 20 → k ≠ 35 → k ≠ 36 → k ≠ 37 → k ≠ 38 → J 74 k = I 74 k
set_option maxHeartbeats 2000000 in
theorem m_beginsAnew (hl : l.stackTraces = false) (hd : 5 ≤ d) (hs : zSt g) {r : zRb} (hr : rRb I r) (hok : rbOk r) : zEv l Xi mX13_beginsAnew d [.ref 74] I g (fun J => fba I J ∧ (∀ k, k = 20 ∨ k = 35 ∨ k = 36 ∨ k = 37 ∨ k = 38 → J 74 k = nI 0) ∧ (J 78 0 = nI (rC r) ∧ J 78 1 = nI (rR r) ∧ J 78 2 = nI (rN r) ∧ J 78 3 = nI (rG r)) ∧ (∀ n, n < rN r → J (89 + 1 + n) 1 = nI (rlm r n) ∧ pnQ J n (fkp r n)) ∧ (∀ p, p < 64 → J 81 p = nI (rwd r p)) ∧ (∀ k, k < 448 → J 533 k = if k < 384 then -1 else 0) ∧ (∀ p, p < 64 → J 533 (448 + p) = if fwl r p then 1 else 0) ∧ (∀ n, n < rN r → J 533 (512 + n) = nI (rcr r n)) ∧ J 533 518 = 0) := by
  refine zC_of hl rfl rfl rfl (Nat.le_of_ble_eq_true rfl) (zav_r (zSt_ob hs 74 13 rfl).1 zav_0) ?_
  obtain ⟨⟨r0, r1, r2, r3⟩, r4, r5, r6, r7⟩ := hr
  obtain ⟨⟨o1, o2, o3, o4, o5, o6⟩, o7, o8, o9, o10⟩ := hok
  obtain ⟨P, hP⟩ : ∃ P : zR → zH → Prop, P = (fun r' h' => r' = .inl none ∧ ∃ J, h' = (J, g) ∧ fba I J ∧ (∀ k, k = 20 ∨ k = 35 ∨ k = 36 ∨ k = 37 ∨ k = 38 → J 74 k = nI 0) ∧ (J 78 0 = nI (rC r) ∧ J 78 1 = nI (rR r) ∧ J 78 2 = nI (rN r) ∧ J 78 3 = nI (rG r)) ∧ (∀ n, n < rN r → J (89 + 1 + n) 1 = nI (rlm r n) ∧ pnQ J n (fkp r n)) ∧ (∀ p, p < 64 → J 81 p = nI (rwd r p)) ∧ (∀ k, k < 448 → J 533 k = if k < 384 then -1 else 0) ∧ (∀ p, p < 64 → J 533 (448 + p) = if fwl r p then 1 else 0) ∧ (∀ n, n < rN r → J 533 (512 + n) = nI (rcr r n)) ∧ J 533 518 = 0) := ⟨_, rfl⟩
  obtain ⟨T, hT⟩ : ∃ T : zI → Prop, T = fun J => J 78 0 = nI (rC r) ∧ J 78 1 = nI (rR r) ∧ J 78 2 = nI (rN r) ∧ J 78 3 = nI (rG r) := ⟨_, rfl⟩
  -- the frame of all but the object itself
  obtain ⟨E, hE⟩ : ∃ E : zI → Prop, E = fun J => ∀ a, a ≠ 78 → a ≠ 81 → (a < 90 ∨ 95 < a) → (a < 104 ∨ 109 < a) → a ≠ 533 → J a = I a := ⟨_, rfl⟩
  obtain ⟨N, hN⟩ : ∃ N : zI → Nat → Prop, N = fun J n => ∀ m, m < n → J (89 + 1 + m) 1 = nI (rlm r m) ∧ pnQ J m (fkp r m) := ⟨_, rfl⟩
  have walls : ∀ m p (J : zI), p + m = 64 → E J → T J → N J (rN r) → (∀ q, q < p → J 81 q = nI (rwd r q)) → (∀ k, k < 448 → J 533 k = if k < 384 then -1 else 0) → (∀ q, q < p → J 533 (448 + q) = if fwl r q then 1 else 0) → (∀ n, n < rN r → J 533 (512 + n) = nI (rcr r n)) → J 533 518 = 0 → zJ l Xi mX13_beginsAnew d 0 0 133 [some (.ref 74), some (.int (nI p))] [] (J, g) P := by
    intro m
    induction m with
    | zero =>
      intro p J hp e t nn w1 w2 w3 w4 w5
      obtain rfl : p = 64 := by omega
      rw [hE] at e
      rw [hT] at t
      rw [hN] at nn
      rw [hP]
      refine zJ_iload_n dX13_beginsAnew_133 rfl ?_
      refine zJ_bipush (v := nI 64) dX13_beginsAnew_134 rfl ?_
      refine zJ_icmp_ge 198 dX13_beginsAnew_136 (by decide) (fun _ => ?_) (fun c136 => absurd (nI_le (by omega) (by omega)) c136)
      refine zJ_aload_n dX13_beginsAnew_198 rfl ?_
      refine zJ_iconst (v := nI 0) dX13_beginsAnew_199 rfl ?_
      refine zP_puti lf_X13_212 (zSt_ob hs 74 13 rfl) rfl dX13_beginsAnew_200 ?_
      refine zJ_aload_n dX13_beginsAnew_203 rfl ?_
      refine zJ_iconst (v := nI 0) dX13_beginsAnew_204 rfl ?_
      refine zP_puti lf_X13_215 (zSt_ob hs 74 13 rfl) rfl dX13_beginsAnew_205 ?_
      refine zJ_aload_n dX13_beginsAnew_208 rfl ?_
      refine zJ_iconst (v := nI 0) dX13_beginsAnew_209 rfl ?_
      refine zP_puti lf_X13_218 (zSt_ob hs 74 13 rfl) rfl dX13_beginsAnew_210 ?_
      refine zJ_aload_n dX13_beginsAnew_213 rfl ?_
      refine zJ_iconst (v := nI 0) dX13_beginsAnew_214 rfl ?_
      refine zP_puti lf_X13_221 (zSt_ob hs 74 13 rfl) rfl dX13_beginsAnew_215 ?_
      refine zJ_aload_n dX13_beginsAnew_218 rfl ?_
      refine zJ_iconst (v := nI 0) dX13_beginsAnew_219 rfl ?_
      refine zP_puti lf_X13_224 (zSt_ob hs 74 13 rfl) rfl dX13_beginsAnew_220 ?_
      refine zJ_vret rfl dX13_beginsAnew_223 ?_
      obtain ⟨K, hK⟩ : ∃ K, zup (zup (zup (zup (zup J 74 20 (nI 0)) 74 35 (nI 0)) 74 36 (nI 0)) 74 37 (nI 0)) 74 38 (nI 0) = K := ⟨_, rfl⟩
      have eK : ∀ a, a ≠ 74 → K a = J a := fun a ha => by rw [← hK, zup_row ha, zup_row ha, zup_row ha, zup_row ha, zup_row ha]
      have fK : ∀ k, k ≠ 20 → k ≠ 35 → k ≠ 36 → k ≠ 37 → k ≠ 38 → K 74 k = I 74 k := fun k q1 q2 q3 q4 q5 => by rw [← hK, zup_same, upd_ne q5, zup_same, upd_ne q4, zup_same, upd_ne q3, zup_same, upd_ne q2, zup_same, upd_ne q1, e 74 (by decide) (by decide) (by decide) (by decide) (by decide)]
      have zK : ∀ k, k = 20 ∨ k = 35 ∨ k = 36 ∨ k = 37 ∨ k = 38 → K 74 k = nI 0 := fun k hk => by
        rw [← hK]
        rcases hk with rfl | rfl | rfl | rfl | rfl
        · rw [zup_same, upd_ne (by decide), zup_same, upd_ne (by decide), zup_same, upd_ne (by decide), zup_same, upd_ne (by decide), zup_same, upd_at]
        · rw [zup_same, upd_ne (by decide), zup_same, upd_ne (by decide), zup_same, upd_ne (by decide), zup_same, upd_at]
        · rw [zup_same, upd_ne (by decide), zup_same, upd_ne (by decide), zup_same, upd_at]
        · rw [zup_same, upd_ne (by decide), zup_same, upd_at]
        · rw [zup_same, upd_at]
      first
        | rw [hK]
        | skip
      refine ⟨rfl, K, rfl, ⟨fun a q1 q2 q3 q4 q5 q6 => by rw [eK a q1]; exact e a q2 q3 q4 q5 q6, fK⟩, zK, by rw [eK 78 (by decide)]; exact t, fun n hn => ⟨by rw [eK _ (by omega)]; exact (nn n hn).1, pnQ_of (nn n hn).2 (by rw [eK _ (by omega)]) (eK _ (by omega))⟩, by rw [eK 81 (by decide)]; exact w1, by rw [eK 533 (by decide)]; exact w2, by rw [eK 533 (by decide)]; exact w3, by rw [eK 533 (by decide)]; exact w4, by rw [eK 533 (by decide)]; exact w5⟩
    | succ m ih =>
      intro p J hp e t nn w1 w2 w3 w4 w5
      have e0 := e
      have t0 := t
      have nn0 := nn
      rw [hE] at e0
      rw [hT] at t0
      rw [hN] at nn0
      have hp64 : p < 64 := by omega
      have hw : J 80 p = nI (rwd r p) := by rw [e0 80 (by decide) (by decide) (by decide) (by decide) (by decide)]; exact r6 p hp64
      obtain ⟨K, hK⟩ : ∃ K, zup J 81 p (nI (rwd r p)) = K := ⟨_, rfl⟩
      have eK : ∀ a, a ≠ 81 → K a = J a := fun a ha => by rw [← hK, zup_row ha]
      have hwl : K 79 p = if rwl r p then 1 else 0 := by rw [eK 79 (by decide), e0 79 (by decide) (by decide) (by decide) (by decide) (by decide)]; exact r7 p hp64
      have htd : tdQ K (rC r) (rR r) := ⟨by rw [eK 78 (by decide)]; exact t0.1, by rw [eK 78 (by decide)]; exact t0.2.1, by omega, o2, by omega, o4⟩
      have hpin : ∀ n, n < rN r → pnQ K n (fkp r n) := fun n hn => pnQ_of (nn0 n hn).2 (by rw [eK _ (by omega)]) (eK _ (by omega))
      have fin : ∀ x : Int32, (x = if fwl r p then 1 else 0) → zJ l Xi mX13_beginsAnew d 0 0 133 [some (.ref 74), some (.int (nI (p + 1)))] [] (zup K 533 (448 + p) x, g) P := by
        intro x hx
        refine ih (p + 1) _ (by omega) ?_ ?_ ?_ (fun q hq => ?_) (fun k hk => by rw [zup_same, upd_ne (by omega), eK 533 (by decide)]; exact w2 k hk) (fun q hq => ?_) (fun n hn => by rw [zup_same, upd_ne (by omega), eK 533 (by decide)]; exact w4 n hn) (by rw [zup_same, upd_ne (by omega), eK 533 (by decide)]; exact w5)
        · rw [hE]
          exact fun a q1 q2 q3 q4 q5 => by rw [zup_row q5, eK a q2]; exact e0 a q1 q2 q3 q4 q5
        · rw [hT]; simp only []; rw [zup_row (by decide), eK 78 (by decide)]; exact t0
        · rw [hN]
          exact fun n hn => ⟨by rw [zup_row (by omega), eK _ (by omega)]; exact (nn0 n hn).1, pnQ_of (nn0 n hn).2 (by rw [zup_row (by omega), eK _ (by omega)]) (by rw [zup_row (by omega), eK _ (by omega)])⟩
        · rw [zup_row (by decide), ← hK, zup_same]
          by_cases z : q = p
          · rw [z, upd_at]
          · rw [upd_ne z]; exact w1 q (by omega)
        · rw [zup_same]
          by_cases z : q = p
          · rw [z, upd_at, hx]
          · rw [upd_ne (by omega), eK 533 (by decide)]; exact w3 q (by omega)
      refine zJ_iload_n dX13_beginsAnew_133 rfl ?_
      refine zJ_bipush (v := nI 64) dX13_beginsAnew_134 rfl ?_
      refine zJ_icmp_ge 198 dX13_beginsAnew_136 (by decide) (fun c136 => absurd c136 (nI_ge (by omega) (by omega))) (fun _ => ?_)
      refine zJ_aload_n dX13_beginsAnew_139 rfl ?_
      refine zP_getr lf_X13_32 (zSt_ob hs 74 13 rfl) rfl (zSt_rf hs 74 15 81 rfl) dX13_beginsAnew_140 ?_
      refine zJ_iload_n dX13_beginsAnew_143 rfl ?_
      refine zJ_aload_n dX13_beginsAnew_144 rfl ?_
      refine zP_getr lf_X13_29 (zSt_ob hs 74 13 rfl) rfl (zSt_rf hs 74 14 80 rfl) dX13_beginsAnew_145 ?_
      refine zJ_iload_n dX13_beginsAnew_148 rfl ?_
      refine zP_iald (zSt_ar hs 80 64 rfl) (by first | assumption | with_reducible exact vp_in_nI (by omega) (by omega) | (simp (disch := omega) only [nI_add, pk_mul, pk_sub, pk_div, pk_rem, nI_clamp]; with_reducible exact vp_in_nI (by omega) (by omega))) dX13_beginsAnew_149 ?_
      rw [nI_clamp (by omega), hw]
      refine zP_iast (zSt_ar hs 81 64 rfl) (by first | assumption | with_reducible exact vp_in_nI (by omega) (by omega) | (simp (disch := omega) only [nI_add, pk_mul, pk_sub, pk_div, pk_rem, nI_clamp]; with_reducible exact vp_in_nI (by omega) (by omega))) dX13_beginsAnew_150 ?_
      rw [nI_clamp (by omega), hK]
      refine zJ_aload_n dX13_beginsAnew_151 rfl ?_
      refine zP_getr lf_X13_70 (zSt_ob hs 74 13 rfl) rfl (zSt_rf hs 74 30 533 rfl) dX13_beginsAnew_152 ?_
      refine zJ_sipush (v := nI 448) dX13_beginsAnew_155 rfl ?_
      refine zJ_iload_n dX13_beginsAnew_158 rfl ?_
      refine zJ_iadd dX13_beginsAnew_159 ?_
      rw [nI_add]
      refine zJ_aload_n dX13_beginsAnew_160 rfl ?_
      refine zJ_iload_n dX13_beginsAnew_161 rfl ?_
      refine zP_callVi [_] _ lv_X13_199 (m_isHere2 (d := d - 1) hl (by omega) hs htd hp64) (zSt_ob hs 74 13 rfl) rfl (by omega) (Nat.le_of_ble_eq_true rfl) rfl dX13_beginsAnew_162 ?_
      refine zJ_if_eq 190 dX13_beginsAnew_165 (by decide) (fun c165 => ?_) (fun c165 => ?_)
      · replace c165 := zb0.mp c165
        refine zJ_iconst (v := nI 0) dX13_beginsAnew_190 rfl ?_
        refine zP_iast (zSt_ar hs 533 519 rfl) (by first | assumption | with_reducible exact vp_in_nI (by omega) (by omega) | (simp (disch := omega) only [nI_add, pk_mul, pk_sub, pk_div, pk_rem, nI_clamp]; with_reducible exact vp_in_nI (by omega) (by omega))) dX13_beginsAnew_191 ?_
        refine zJ_iinc1 dX13_beginsAnew_192 rfl (by decide) ?_
        refine zJ_goto 133 dX13_beginsAnew_195 (by decide) ?_
        rw [nI_clamp (by omega)]
        exact zJ_back (zle_r (zle_r zle_0)) rfl (fin _ (by unfold fwl; rw [c165, Bool.and_false, Bool.false_and]; rfl))
      · replace c165 := zb1.mp c165
        refine zJ_aload_n dX13_beginsAnew_168 rfl ?_
        refine zP_getr lf_X13_26 (zSt_ob hs 74 13 rfl) rfl (zSt_rf hs 74 13 79 rfl) dX13_beginsAnew_169 ?_
        refine zJ_iload_n dX13_beginsAnew_172 rfl ?_
        refine zP_iald (zSt_ar hs 79 64 rfl) (by first | assumption | with_reducible exact vp_in_nI (by omega) (by omega) | (simp (disch := omega) only [nI_add, pk_mul, pk_sub, pk_div, pk_rem, nI_clamp]; with_reducible exact vp_in_nI (by omega) (by omega))) dX13_beginsAnew_173 ?_
        rw [nI_clamp (by omega), hwl]
        refine zJ_iconst (v := nI 1) dX13_beginsAnew_174 rfl ?_
        refine zJ_icmp_ne 190 dX13_beginsAnew_175 (by decide) (fun c175 => ?_) (fun c175 => ?_)
        · skip
          refine zJ_iconst (v := nI 0) dX13_beginsAnew_190 rfl ?_
          refine zP_iast (zSt_ar hs 533 519 rfl) (by first | assumption | with_reducible exact vp_in_nI (by omega) (by omega) | (simp (disch := omega) only [nI_add, pk_mul, pk_sub, pk_div, pk_rem, nI_clamp]; with_reducible exact vp_in_nI (by omega) (by omega))) dX13_beginsAnew_191 ?_
          refine zJ_iinc1 dX13_beginsAnew_192 rfl (by decide) ?_
          refine zJ_goto 133 dX13_beginsAnew_195 (by decide) ?_
          rw [nI_clamp (by omega)]
          have e9 : rwl r p = false := by cases z : rwl r p with | false => rfl | true => rw [z] at c175; exact absurd rfl c175
          exact zJ_back (zle_r (zle_r zle_0)) rfl (fin _ (by unfold fwl; rw [e9, Bool.false_and, Bool.false_and]; rfl))
        · skip
          refine zJ_aload_n dX13_beginsAnew_178 rfl ?_
          refine zJ_iload_n dX13_beginsAnew_179 rfl ?_
          refine zP_callVi [_] _ lv_X13_209 (m_pinned2 (d := d - 1) hl (by omega) hs (by rw [eK 78 (by decide)]; exact t0.2.2.1) o5 hpin hp64) (zSt_ob hs 74 13 rfl) rfl (by omega) (Nat.le_of_ble_eq_true rfl) rfl dX13_beginsAnew_180 ?_
          refine zJ_if_ne 190 dX13_beginsAnew_183 (by decide) (fun c183 => ?_) (fun c183 => ?_)
          · skip
            refine zJ_iconst (v := nI 0) dX13_beginsAnew_190 rfl ?_
            refine zP_iast (zSt_ar hs 533 519 rfl) (by first | assumption | with_reducible exact vp_in_nI (by omega) (by omega) | (simp (disch := omega) only [nI_add, pk_mul, pk_sub, pk_div, pk_rem, nI_clamp]; with_reducible exact vp_in_nI (by omega) (by omega))) dX13_beginsAnew_191 ?_
            refine zJ_iinc1 dX13_beginsAnew_192 rfl (by decide) ?_
            refine zJ_goto 133 dX13_beginsAnew_195 (by decide) ?_
            rw [nI_clamp (by omega)]
            have e9 : anyB (fpb r p) (rN r) = true := by cases z : anyB (fpb r p) (rN r) with | true => rfl | false => exact absurd ((bitF_z o5).mpr z) c183
            exact zJ_back (zle_r (zle_r zle_0)) rfl (fin _ (by unfold fwl; rw [e9, Bool.not_true, Bool.and_false]; rfl))
          · skip
            refine zJ_iconst (v := nI 1) dX13_beginsAnew_186 rfl ?_
            refine zJ_goto 191 dX13_beginsAnew_187 (by decide) ?_
            refine zP_iast (zSt_ar hs 533 519 rfl) (by first | assumption | with_reducible exact vp_in_nI (by omega) (by omega) | (simp (disch := omega) only [nI_add, pk_mul, pk_sub, pk_div, pk_rem, nI_clamp]; with_reducible exact vp_in_nI (by omega) (by omega))) dX13_beginsAnew_191 ?_
            refine zJ_iinc1 dX13_beginsAnew_192 rfl (by decide) ?_
            refine zJ_goto 133 dX13_beginsAnew_195 (by decide) ?_
            rw [nI_clamp (by omega)]
            have e9 : anyB (fpb r p) (rN r) = false := (bitF_z o5).mp c183
            have e8 : rwl r p = true := by cases z : rwl r p with | true => rfl | false => rw [z] at c175; exact absurd c175 (by decide)
            exact zJ_back (zle_r (zle_r zle_0)) rfl (fin _ (by unfold fwl; rw [e8, c165, e9]; rfl))
  have nets : ∀ m n (J : zI), n + m = rN r → E J → T J → N J n → (∀ k, k < 448 → J 533 k = if k < 384 then -1 else 0) → (∀ i, i < n → J 533 (512 + i) = nI (rcr r i)) → J 533 518 = 0 → zJ l Xi mX13_beginsAnew d 0 0 60 [some (.ref 74), some (.int (nI n))] [] (J, g) P := by
    intro m
    induction m with
    | zero =>
      intro n J hn e t nn w2 w4 w5
      obtain rfl : n = rN r := by omega
      have t0 := t
      rw [hT] at t0
      have hNN : J 78 (nI 2).toNatClampNeg = nI (rN r) := by rw [nI_clamp (by omega)]; exact t0.2.2.1
      refine zJ_iload_n dX13_beginsAnew_60 rfl ?_
      refine zJ_aload_n dX13_beginsAnew_61 rfl ?_
      refine zP_getr lf_X13_23 (zSt_ob hs 74 13 rfl) rfl (zSt_rf hs 74 12 78 rfl) dX13_beginsAnew_62 ?_
      refine zJ_iconst (v := nI 2) dX13_beginsAnew_65 rfl ?_
      refine zP_iald (zSt_ar hs 78 4 rfl) (by first | assumption | with_reducible exact vp_in_nI (by omega) (by omega) | (simp (disch := omega) only [nI_add, pk_mul, pk_sub, pk_div, pk_rem, nI_clamp]; with_reducible exact vp_in_nI (by omega) (by omega))) dX13_beginsAnew_66 ?_
      refine zJ_icmp_ge 131 dX13_beginsAnew_67 (by decide) (fun _ => ?_) (fun c67 => absurd (by rw [hNN]; exact nI_le (by omega) (by omega)) c67)
      refine zJ_iconst (v := nI 0) dX13_beginsAnew_131 rfl ?_
      refine zJ_istore_m 1 dX13_beginsAnew_132 rfl (Nat.le_of_ble_eq_true rfl) (by decide) ?_
      exact zJ_back (zle_r (zle_r zle_0)) rfl (walls 64 0 J (by omega) e t nn (fun q hq => absurd hq (Nat.not_lt_zero _)) w2 (fun q hq => absurd hq (Nat.not_lt_zero _)) w4 w5)
    | succ m ih =>
      intro n J hn e t nn w2 w4 w5
      have e0 := e
      have t0 := t
      have nn0 := nn
      rw [hE] at e0
      rw [hT] at t0
      rw [hN] at nn0
      have hnN : n < rN r := by omega
      have hNN : J 78 (nI 2).toNatClampNeg = nI (rN r) := by rw [nI_clamp (by omega)]; exact t0.2.2.1
      have hrn : ∀ k, J (82 + 1 + n) k = I (82 + 1 + n) k := fun k => by rw [e0 _ (by omega) (by omega) (by omega) (by omega) (by omega)]
      obtain ⟨K, hK⟩ : ∃ K, zup (zup J (89 + 1 + n) 0 (nI (rcr r n))) (89 + 1 + n) 1 (nI (rlm r n)) = K := ⟨_, rfl⟩
      have eK : ∀ a, a ≠ 89 + 1 + n → K a = J a := fun a ha => by rw [← hK, zup_row ha, zup_row ha]
      have k0 : K (89 + 1 + n) 0 = nI (rcr r n) := by rw [← hK, zup_same, upd_ne (by decide), zup_same, upd_at]
      have k1 : K (89 + 1 + n) 1 = nI (rlm r n) := by rw [← hK, zup_same, upd_at]
      have htd : tdQ K (rC r) (rR r) := ⟨by rw [eK 78 (by omega)]; exact t0.1, by rw [eK 78 (by omega)]; exact t0.2.1, by omega, o2, by omega, o4⟩
      refine zJ_iload_n dX13_beginsAnew_60 rfl ?_
      refine zJ_aload_n dX13_beginsAnew_61 rfl ?_
      refine zP_getr lf_X13_23 (zSt_ob hs 74 13 rfl) rfl (zSt_rf hs 74 12 78 rfl) dX13_beginsAnew_62 ?_
      refine zJ_iconst (v := nI 2) dX13_beginsAnew_65 rfl ?_
      refine zP_iald (zSt_ar hs 78 4 rfl) (by first | assumption | with_reducible exact vp_in_nI (by omega) (by omega) | (simp (disch := omega) only [nI_add, pk_mul, pk_sub, pk_div, pk_rem, nI_clamp]; with_reducible exact vp_in_nI (by omega) (by omega))) dX13_beginsAnew_66 ?_
      refine zJ_icmp_ge 131 dX13_beginsAnew_67 (by decide) (fun c67 => absurd c67 (by rw [hNN]; exact nI_ge (by omega) (by omega))) (fun _ => ?_)
      refine zJ_aload_n dX13_beginsAnew_70 rfl ?_
      refine zP_getr lf_X13_40 (zSt_ob hs 74 13 rfl) rfl (zSt_rf hs 74 17 89 rfl) dX13_beginsAnew_71 ?_
      refine zJ_iload_n dX13_beginsAnew_74 rfl ?_
      refine zP_rowK (k := n) (zSt_g89 hs) (by omega) (by decide) dX13_beginsAnew_75 ?_
      refine zJ_iconst (v := nI 0) dX13_beginsAnew_76 rfl ?_
      refine zJ_aload_n dX13_beginsAnew_77 rfl ?_
      refine zP_getr lf_X13_37 (zSt_ob hs 74 13 rfl) rfl (zSt_rf hs 74 16 82 rfl) dX13_beginsAnew_78 ?_
      refine zJ_iload_n dX13_beginsAnew_81 rfl ?_
      refine zP_rowK (k := n) (zSt_g82 hs) (by omega) (by decide) dX13_beginsAnew_82 ?_
      refine zJ_iconst (v := nI 0) dX13_beginsAnew_83 rfl ?_
      refine zP_iald (zGr_ar (zSt_g82 hs) (i := n) (by omega)) (by first | assumption | with_reducible exact vp_in_nI (by omega) (by omega) | (simp (disch := omega) only [nI_add, pk_mul, pk_sub, pk_div, pk_rem, nI_clamp]; with_reducible exact vp_in_nI (by omega) (by omega))) dX13_beginsAnew_84 ?_
      rw [nI_clamp (by omega), hrn, (r4 n hnN).1]
      refine zP_iast (zGr_ar (zSt_g89 hs) (i := n) (by omega)) (by first | assumption | with_reducible exact vp_in_nI (by omega) (by omega) | (simp (disch := omega) only [nI_add, pk_mul, pk_sub, pk_div, pk_rem, nI_clamp]; with_reducible exact vp_in_nI (by omega) (by omega))) dX13_beginsAnew_85 ?_
      refine zJ_aload_n dX13_beginsAnew_86 rfl ?_
      refine zP_getr lf_X13_40 (zSt_ob hs 74 13 rfl) rfl (zSt_rf hs 74 17 89 rfl) dX13_beginsAnew_87 ?_
      refine zJ_iload_n dX13_beginsAnew_90 rfl ?_
      refine zP_rowK (k := n) (zSt_g89 hs) (by omega) (by decide) dX13_beginsAnew_91 ?_
      refine zJ_iconst (v := nI 1) dX13_beginsAnew_92 rfl ?_
      refine zJ_aload_n dX13_beginsAnew_93 rfl ?_
      refine zP_getr lf_X13_37 (zSt_ob hs 74 13 rfl) rfl (zSt_rf hs 74 16 82 rfl) dX13_beginsAnew_94 ?_
      refine zJ_iload_n dX13_beginsAnew_97 rfl ?_
      refine zP_rowK (k := n) (zSt_g82 hs) (by omega) (by decide) dX13_beginsAnew_98 ?_
      refine zJ_iconst (v := nI 1) dX13_beginsAnew_99 rfl ?_
      refine zP_iald (zGr_ar (zSt_g82 hs) (i := n) (by omega)) (by first | assumption | with_reducible exact vp_in_nI (by omega) (by omega) | (simp (disch := omega) only [nI_add, pk_mul, pk_sub, pk_div, pk_rem, nI_clamp]; with_reducible exact vp_in_nI (by omega) (by omega))) dX13_beginsAnew_100 ?_
      rw [nI_clamp (by omega), nI_clamp (by omega), zup_row (by omega), hrn, (r4 n hnN).2.1]
      refine zP_iast (zGr_ar (zSt_g89 hs) (i := n) (by omega)) (by first | assumption | with_reducible exact vp_in_nI (by omega) (by omega) | (simp (disch := omega) only [nI_add, pk_mul, pk_sub, pk_div, pk_rem, nI_clamp]; with_reducible exact vp_in_nI (by omega) (by omega))) dX13_beginsAnew_101 ?_
      rw [nI_clamp (by omega), hK]
      refine zJ_aload_n dX13_beginsAnew_102 rfl ?_
      refine zJ_iload_n dX13_beginsAnew_103 rfl ?_
      refine zP_ecallVv [_] _ lv_X13_206 (m_laysPins (d := d - 1) (pc := rpc r n) (pn := rpn r n) hl (by omega) hs htd (by omega) (by rw [eK _ (by omega), hrn]; exact (r4 n hnN).2.2) (o7 n (by omega)).1 (fun i hi => ⟨by rw [eK _ (by omega), e0 _ (by omega) (by omega) (by omega) (by omega) (by omega)]; exact r5 n i hnN hi, o8 n i (by omega) hi⟩)) (zSt_ob hs 74 13 rfl) rfl (by omega) (Nat.le_of_ble_eq_true rfl) rfl dX13_beginsAnew_104 (fun J2 h2 => ?_)
      refine zJ_aload_n dX13_beginsAnew_107 rfl ?_
      refine zP_getr lf_X13_70 (zSt_ob hs 74 13 rfl) rfl (zSt_rf hs 74 30 533 rfl) dX13_beginsAnew_108 ?_
      refine zJ_sipush (v := nI 512) dX13_beginsAnew_111 rfl ?_
      refine zJ_iload_n dX13_beginsAnew_114 rfl ?_
      refine zJ_iadd dX13_beginsAnew_115 ?_
      rw [nI_add]
      refine zJ_aload_n dX13_beginsAnew_116 rfl ?_
      refine zP_getr lf_X13_40 (zSt_ob hs 74 13 rfl) rfl (zSt_rf hs 74 17 89 rfl) dX13_beginsAnew_117 ?_
      refine zJ_iload_n dX13_beginsAnew_120 rfl ?_
      refine zP_rowK (k := n) (zSt_g89 hs) (by omega) (by decide) dX13_beginsAnew_121 ?_
      refine zJ_iconst (v := nI 0) dX13_beginsAnew_122 rfl ?_
      refine zP_iald (zGr_ar (zSt_g89 hs) (i := n) (by omega)) (by first | assumption | with_reducible exact vp_in_nI (by omega) (by omega) | (simp (disch := omega) only [nI_add, pk_mul, pk_sub, pk_div, pk_rem, nI_clamp]; with_reducible exact vp_in_nI (by omega) (by omega))) dX13_beginsAnew_123 ?_
      rw [nI_clamp (by omega), h2.2.1 0 (by decide), k0]
      refine zP_iast (zSt_ar hs 533 519 rfl) (by first | assumption | with_reducible exact vp_in_nI (by omega) (by omega) | (simp (disch := omega) only [nI_add, pk_mul, pk_sub, pk_div, pk_rem, nI_clamp]; with_reducible exact vp_in_nI (by omega) (by omega))) dX13_beginsAnew_124 ?_
      refine zJ_iinc1 dX13_beginsAnew_125 rfl (by decide) ?_
      refine zJ_goto 60 dX13_beginsAnew_128 (by decide) ?_
      obtain ⟨p1, p2, p3⟩ := h2
      rw [nI_clamp (by omega)]
      have e5 : J2 533 = J 533 := by rw [p1 533 (by omega) (by omega), eK 533 (by omega)]
      refine zJ_back (zle_r (zle_r zle_0)) rfl (ih (n + 1) _ (by omega) ?_ ?_ ?_ (fun k hk => by rw [zup_same, upd_ne (by omega), e5]; exact w2 k hk) (fun i hi => ?_) (by rw [zup_same, upd_ne (by omega), e5]; exact w5))
      · rw [hE]
        exact fun a q1 q2 q3 q4 q5 => by rw [zup_row q5, p1 a (by omega) (by omega), eK a (by omega)]; exact e0 a q1 q2 q3 q4 q5
      · rw [hT]; simp only []; rw [zup_row (by decide), p1 78 (by omega) (by omega), eK 78 (by omega)]; exact t0
      · rw [hN]
        intro i hi
        by_cases z : i = n
        · subst z
          exact ⟨by rw [zup_row (by omega), p2 1 (by decide)]; exact k1, pnQ_of p3 (by rw [zup_row (by omega)]) (zup_row (by omega))⟩
        · have h9 := nn0 i (by omega)
          exact ⟨by rw [zup_row (by omega), p1 _ (by omega) (by omega), eK _ (by omega)]; exact h9.1, pnQ_of h9.2 (by rw [zup_row (by omega), p1 _ (by omega) (by omega), eK _ (by omega)]) (by rw [zup_row (by omega), p1 _ (by omega) (by omega), eK _ (by omega)])⟩
      · rw [zup_same]
        by_cases z : i = n
        · rw [z, upd_at]
        · rw [upd_ne (by omega), e5]; exact w4 i (by omega)
  have clears : ∀ m k (J : zI), k + m = 519 → E J → T J → (∀ i, i < k → J 533 i = if i < 384 then -1 else 0) → zJ l Xi mX13_beginsAnew d 0 0 27 [some (.ref 74), some (.int (nI k))] [] (J, g) P := by
    intro m
    induction m with
    | zero =>
      intro k J hk e t w
      obtain rfl : k = 519 := by omega
      refine zJ_iload_n dX13_beginsAnew_27 rfl ?_
      refine zJ_sipush (v := nI 519) dX13_beginsAnew_28 rfl ?_
      refine zJ_icmp_ge 58 dX13_beginsAnew_31 (by decide) (fun _ => ?_) (fun c31 => absurd (nI_le (by omega) (by omega)) c31)
      refine zJ_iconst (v := nI 0) dX13_beginsAnew_58 rfl ?_
      refine zJ_istore_m 1 dX13_beginsAnew_59 rfl (Nat.le_of_ble_eq_true rfl) (by decide) ?_
      exact zJ_back (zle_r (zle_r zle_0)) rfl (nets (rN r) 0 J (by omega) e t (by rw [hN]; exact fun i hi => absurd hi (Nat.not_lt_zero _)) (fun k hk => w k (by omega)) (fun i hi => absurd hi (Nat.not_lt_zero _)) (w 518 (by omega)))
    | succ m ih =>
      intro k J hk e t w
      have put : ∀ x : Int32, (x = if k < 384 then -1 else 0) → zJ l Xi mX13_beginsAnew d 0 0 27 [some (.ref 74), some (.int (nI (k + 1)))] [] (zup J 533 k x, g) P := by
        intro x hx
        refine ih (k + 1) _ (by omega) ?_ ?_ (fun i hi => ?_)
        · rw [hE] at e ⊢
          exact fun a q1 q2 q3 q4 q5 => by rw [zup_row q5]; exact e a q1 q2 q3 q4 q5
        · rw [hT] at t ⊢
          simp only [] at t ⊢
          rw [zup_row (by decide)]; exact t
        · rw [zup_same]
          by_cases z : i = k
          · rw [z, upd_at, hx]
          · rw [upd_ne z]; exact w i (by omega)
      refine zJ_iload_n dX13_beginsAnew_27 rfl ?_
      refine zJ_sipush (v := nI 519) dX13_beginsAnew_28 rfl ?_
      refine zJ_icmp_ge 58 dX13_beginsAnew_31 (by decide) (fun c31 => absurd c31 (nI_ge (by omega) (by omega))) (fun _ => ?_)
      refine zJ_aload_n dX13_beginsAnew_34 rfl ?_
      refine zP_getr lf_X13_70 (zSt_ob hs 74 13 rfl) rfl (zSt_rf hs 74 30 533 rfl) dX13_beginsAnew_35 ?_
      refine zJ_iload_n dX13_beginsAnew_38 rfl ?_
      refine zJ_iload_n dX13_beginsAnew_39 rfl ?_
      refine zJ_sipush (v := nI 384) dX13_beginsAnew_40 rfl ?_
      refine zJ_icmp_ge 50 dX13_beginsAnew_43 (by decide) (fun c43 => ?_) (fun c43 => ?_)
      · skip
        refine zJ_iconst (v := nI 0) dX13_beginsAnew_50 rfl ?_
        refine zP_iast (zSt_ar hs 533 519 rfl) (by first | assumption | with_reducible exact vp_in_nI (by omega) (by omega) | (simp (disch := omega) only [nI_add, pk_mul, pk_sub, pk_div, pk_rem, nI_clamp]; with_reducible exact vp_in_nI (by omega) (by omega))) dX13_beginsAnew_51 ?_
        refine zJ_iinc1 dX13_beginsAnew_52 rfl (by decide) ?_
        refine zJ_goto 27 dX13_beginsAnew_55 (by decide) ?_
        rw [nI_clamp (by omega)]
        have h9 : ¬ k < 384 := fun z => absurd c43 (nI_ge z (by omega))
        exact zJ_back (zle_r (zle_r zle_0)) rfl (put _ (by rw [if_neg h9]; rfl))
      · skip
        refine zJ_iconst (v := -1) dX13_beginsAnew_46 rfl ?_
        refine zJ_goto 51 dX13_beginsAnew_47 (by decide) ?_
        refine zP_iast (zSt_ar hs 533 519 rfl) (by first | assumption | with_reducible exact vp_in_nI (by omega) (by omega) | (simp (disch := omega) only [nI_add, pk_mul, pk_sub, pk_div, pk_rem, nI_clamp]; with_reducible exact vp_in_nI (by omega) (by omega))) dX13_beginsAnew_51 ?_
        refine zJ_iinc1 dX13_beginsAnew_52 rfl (by decide) ?_
        refine zJ_goto 27 dX13_beginsAnew_55 (by decide) ?_
        rw [nI_clamp (by omega)]
        have h9 : k < 384 := Nat.lt_of_not_le (fun z => c43 (nI_le z (by omega)))
        exact zJ_back (zle_r (zle_r zle_0)) rfl (put _ (by rw [if_pos h9]))
  have tells : ∀ m k (J : zI), k + m = 4 → E J → (∀ i, i < k → J 78 i = I 77 i) → zJ l Xi mX13_beginsAnew d 0 0 2 [some (.ref 74), some (.int (nI k))] [] (J, g) P := by
    intro m
    induction m with
    | zero =>
      intro k J hk e w
      obtain rfl : k = 4 := by omega
      refine zJ_iload_n dX13_beginsAnew_2 rfl ?_
      refine zJ_iconst (v := nI 4) dX13_beginsAnew_3 rfl ?_
      refine zJ_icmp_ge 25 dX13_beginsAnew_4 (by decide) (fun _ => ?_) (fun c4 => absurd (nI_le (by omega) (by omega)) c4)
      refine zJ_iconst (v := nI 0) dX13_beginsAnew_25 rfl ?_
      refine zJ_istore_m 1 dX13_beginsAnew_26 rfl (Nat.le_of_ble_eq_true rfl) (by decide) ?_
      exact zJ_back (zle_r (zle_r zle_0)) rfl (clears 519 0 J (by omega) e (by rw [hT]; exact ⟨(w 0 (by decide)).trans r0, (w 1 (by decide)).trans r1, (w 2 (by decide)).trans r2, (w 3 (by decide)).trans r3⟩) (fun i hi => absurd hi (Nat.not_lt_zero _)))
    | succ m ih =>
      intro k J hk e w
      have e0 := e
      rw [hE] at e0
      refine zJ_iload_n dX13_beginsAnew_2 rfl ?_
      refine zJ_iconst (v := nI 4) dX13_beginsAnew_3 rfl ?_
      refine zJ_icmp_ge 25 dX13_beginsAnew_4 (by decide) (fun c4 => absurd c4 (nI_ge (by omega) (by omega))) (fun _ => ?_)
      refine zJ_aload_n dX13_beginsAnew_7 rfl ?_
      refine zP_getr lf_X13_23 (zSt_ob hs 74 13 rfl) rfl (zSt_rf hs 74 12 78 rfl) dX13_beginsAnew_8 ?_
      refine zJ_iload_n dX13_beginsAnew_11 rfl ?_
      refine zJ_aload_n dX13_beginsAnew_12 rfl ?_
      refine zP_getr lf_X13_20 (zSt_ob hs 74 13 rfl) rfl (zSt_rf hs 74 11 77 rfl) dX13_beginsAnew_13 ?_
      refine zJ_iload_n dX13_beginsAnew_16 rfl ?_
      refine zP_iald (zSt_ar hs 77 4 rfl) (by first | assumption | with_reducible exact vp_in_nI (by omega) (by omega) | (simp (disch := omega) only [nI_add, pk_mul, pk_sub, pk_div, pk_rem, nI_clamp]; with_reducible exact vp_in_nI (by omega) (by omega))) dX13_beginsAnew_17 ?_
      refine zP_iast (zSt_ar hs 78 4 rfl) (by first | assumption | with_reducible exact vp_in_nI (by omega) (by omega) | (simp (disch := omega) only [nI_add, pk_mul, pk_sub, pk_div, pk_rem, nI_clamp]; with_reducible exact vp_in_nI (by omega) (by omega))) dX13_beginsAnew_18 ?_
      refine zJ_iinc1 dX13_beginsAnew_19 rfl (by decide) ?_
      refine zJ_goto 2 dX13_beginsAnew_22 (by decide) ?_
      rw [nI_clamp (by omega), e0 77 (by decide) (by decide) (by decide) (by decide) (by decide)]
      refine zJ_back (zle_r (zle_r zle_0)) rfl (ih (k + 1) _ (by omega) ?_ (fun i hi => ?_))
      · rw [hE]
        exact fun a q1 q2 q3 q4 q5 => by rw [zup_row q1]; exact e0 a q1 q2 q3 q4 q5
      · rw [zup_same]
        by_cases z : i = k
        · rw [z, upd_at]
        · rw [upd_ne z]; exact w i (by omega)
  rw [← hP]
  refine zJ_iconst (v := nI 0) dX13_beginsAnew_0 rfl ?_
  refine zJ_istore_m 1 dX13_beginsAnew_1 rfl (Nat.le_of_ble_eq_true rfl) (by decide) ?_
  exact zJ_back (zle_r (zle_r zle_0)) rfl (tells 4 0 I (by omega) (by rw [hE]; exact fun _ _ _ _ _ _ => rfl) (fun i hi => absurd hi (Nat.not_lt_zero _)))
end ZRefAH
