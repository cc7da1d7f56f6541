/-! ===== the reference: pins, growing ===== -/
section ZRefE
variable {l : Launch} {Xi : zXi} {d : Nat} {I : zI} {g : zG}
section ZPES
variable {M : zM} {kc ks pc : Nat} {Ls : List (Option Value)} {S : List Value} {post : zR → zH → Prop}
theorem zP_ecallSv {M' : zM} {idx d' : Nat} {Q : zI → Prop} (As rest : List Value) (lk : zLS M.1 idx M' As.length) (hC : zEv l Xi M' d' As I g Q) (hst : S = As.reverse ++ rest) (hd1 : d' + 1 ≤ d) (hcat : (rest.map fun v => v.category).sum ≤ 8) (hM : M.2.2.2.2.2 = []) (hd : decode M.2.2.1 pc = .ok (.invokestatic idx, 3))
    (kk : ∀ I', Q I' → zJ l Xi M d kc ks (pc + 3) Ls rest (I', g) post) : zJ l Xi M d kc ks pc Ls S (I, g) post :=
  zJ_callS (h := (I, g)) (kc' := 0) (ks' := 0) As rest lk hC hst hd1 hcat hM hd (fun E h1 q _ => by cases q.1) (fun r' h1 q _ => by obtain ⟨q1, I', q2, q3⟩ := q; cases q1; rw [q2]; exact kk I' q3)
theorem zP_ecallSi {M' : zM} {idx d' : Nat} {Q : Int32 → zI → Prop} (As rest : List Value) (lk : zLS M.1 idx M' As.length) (hC : zEi l Xi M' d' As I g Q) (hst : S = As.reverse ++ rest) (hd1 : d' + 1 ≤ d) (hcat : (rest.map fun v => v.category).sum ≤ 8) (hM : M.2.2.2.2.2 = []) (hd : decode M.2.2.1 pc = .ok (.invokestatic idx, 3))
    (kk : ∀ x I', Q x I' → zJ l Xi M d kc ks (pc + 3) Ls (.int x :: rest) (I', g) post) : zJ l Xi M d kc ks pc Ls S (I, g) post :=
  zJ_callS (h := (I, g)) (kc' := 0) (ks' := 0) As rest lk hC hst hd1 hcat hM hd (fun E h1 q _ => by obtain ⟨x, I', q1, -⟩ := q; cases q1) (fun r' h1 q _ => by obtain ⟨x, I', q1, q2, q3⟩ := q; cases q1; rw [q2]; exact kk x I' q3)
end ZPES
theorem m_isJoined (hl : l.stackTraces = false) (hd : 3 ≤ d) (hs : zSt g) {b : zWo} {R : rwT} (hB : rB I b) {a n : Nat} (ha : zAr g a 519) (hR : rRow I a b R) (hn : n < bN b) : zD l Xi mX13_isJoined d [.ref 74, .ref a, .int (nI n)] I g (some (.int (if jnd R (bpc b) (bpn b) n then 1 else 0))) I := by
  refine zC_of hl rfl rfl rfl (Nat.le_of_ble_eq_true rfl) (zav_r (zSt_ob hs 74 13 rfl).1 (zav_r ha.1 (zav_i zav_0))) ?_
  have hN6 := hB.1.2.2.2.2.1
  have h4 := hB.1.2.2.2.2.2.1 n (by omega)
  have hc : I (89 + 1 + n) (nI 2).toNatClampNeg = nI (bpc b n) := by rw [nI_clamp (by omega)]; exact (hB.2.2.2.1 n hn).2
  have loop : ∀ m p, p + m = bpc b n → allB (fun i => tin R n (bpn b n i)) p = true → zJ l Xi mX13_isJoined d 0 0 2 [some (.ref 74), some (.ref a), some (.int (nI n)), some (.int (nI p))] [] (I, g) (fun r' h' => r' = .inl (some (.int (if jnd R (bpc b) (bpn b) n then 1 else 0))) ∧ h' = (I, g)) := by
    intro m
    induction m with
    | zero =>
      intro p hp hI
      obtain rfl : p = bpc b n := by omega
      refine zJ_iload_n dX13_isJoined_2 rfl ?_
      refine zJ_aload_n dX13_isJoined_3 rfl ?_
      refine zP_getr lf_X13_40 (zSt_ob hs 74 13 rfl) rfl (zSt_rf hs 74 17 89 rfl) dX13_isJoined_4 ?_
      refine zJ_iload_n dX13_isJoined_7 rfl ?_
      refine zP_rowK (k := n) (zSt_g89 hs) (by omega) (by decide) dX13_isJoined_8 ?_
      refine zJ_iconst (v := nI 2) dX13_isJoined_9 rfl ?_
      refine zP_iald (zGr_ar (zSt_g89 hs) (i := n) (by omega)) (by first | assumption | with_reducible exact vp_in_nI (by omega) (by omega) | (simp (disch := omega) only [nI_add, pk_mul, pk_sub, pk_div, pk_rem, nI_clamp]; with_reducible exact vp_in_nI (by omega) (by omega))) dX13_isJoined_10 ?_
      refine zJ_icmp_ge 38 dX13_isJoined_11 (by decide) (fun _ => ?_) (fun c11 => absurd (by rw [hc]; exact nI_le (by omega) (by omega)) c11)
      refine zJ_iconst (v := nI 1) dX13_isJoined_38 rfl ?_
      refine zJ_zret rfl (by decide) dX13_isJoined_39 ?_
      exact ⟨by simp [jnd, hI, nI1], rfl⟩
    | succ m ih =>
      intro p hp hI
      have hpin := hB.2.2.2.2.1 n p hn (by omega)
      have hp64 := (hB.1.2.2.2.2.2.2.1 n p (by omega) (by omega)).1
      have hta : tin (I a) n (bpn b n p) = tin R n (bpn b n p) := r_tin hR (by omega) hp64
      refine zJ_iload_n dX13_isJoined_2 rfl ?_
      refine zJ_aload_n dX13_isJoined_3 rfl ?_
      refine zP_getr lf_X13_40 (zSt_ob hs 74 13 rfl) rfl (zSt_rf hs 74 17 89 rfl) dX13_isJoined_4 ?_
      refine zJ_iload_n dX13_isJoined_7 rfl ?_
      refine zP_rowK (k := n) (zSt_g89 hs) (by omega) (by decide) dX13_isJoined_8 ?_
      refine zJ_iconst (v := nI 2) dX13_isJoined_9 rfl ?_
      refine zP_iald (zGr_ar (zSt_g89 hs) (i := n) (by omega)) (by first | assumption | with_reducible exact vp_in_nI (by omega) (by omega) | (simp (disch := omega) only [nI_add, pk_mul, pk_sub, pk_div, pk_rem, nI_clamp]; with_reducible exact vp_in_nI (by omega) (by omega))) dX13_isJoined_10 ?_
      refine zJ_icmp_ge 38 dX13_isJoined_11 (by decide) (fun c11 => absurd c11 (by rw [hc]; exact nI_ge (by omega) (by omega))) (fun _ => ?_)
      refine zJ_aload_n dX13_isJoined_14 rfl ?_
      refine zJ_iload_n dX13_isJoined_15 rfl ?_
      refine zJ_aload_n dX13_isJoined_16 rfl ?_
      refine zP_getr lf_X13_46 (zSt_ob hs 74 13 rfl) rfl (zSt_rf hs 74 19 103 rfl) dX13_isJoined_17 ?_
      refine zJ_iload_n dX13_isJoined_20 rfl ?_
      refine zP_rowK (k := n) (zSt_g103 hs) (by omega) (by decide) dX13_isJoined_21 ?_
      refine zJ_iload_n dX13_isJoined_22 rfl ?_
      refine zP_iald (zGr_ar (zSt_g103 hs) (i := n) (by omega)) (by first | assumption | with_reducible exact vp_in_nI (by omega) (by omega) | (simp (disch := omega) only [nI_add, pk_mul, pk_sub, pk_div, pk_rem, nI_clamp]; with_reducible exact vp_in_nI (by omega) (by omega))) dX13_isJoined_23 ?_
      rw [nI_clamp (by omega), hpin]
      refine zP_callSi [_, _, _] _ ls_X13_287 (k_isIn (d := d - 1) hl (by omega) ha (by omega) hp64) rfl (by omega) (Nat.le_of_ble_eq_true rfl) rfl dX13_isJoined_24 ?_
      refine zJ_if_ne 32 dX13_isJoined_27 (by decide) (fun c27 => ?_) (fun c27 => ?_)
      · replace c27 := zb1.mp c27
        refine zJ_iinc1 dX13_isJoined_32 rfl (by decide) ?_
        refine zJ_goto 2 dX13_isJoined_35 (by decide) ?_
        rw [hta] at c27
        exact zJ_back (zle_r (zle_r (zle_r (zle_r zle_0)))) rfl (ih (p + 1) (by omega) (by simp [allB, hI, c27]))
      · replace c27 := zb0.mp c27
        refine zJ_iconst (v := nI 0) dX13_isJoined_30 rfl ?_
        refine zJ_zret rfl (by decide) dX13_isJoined_31 ?_
        rw [hta] at c27
        exact ⟨by simp [jnd, allB_no (f := fun i => tin R n (bpn b n i)) (show p < bpc b n by omega) c27, nI0], rfl⟩
  refine zJ_iconst (v := nI 0) dX13_isJoined_0 rfl ?_
  refine zJ_istore_m 3 dX13_isJoined_1 rfl (Nat.le_of_ble_eq_true rfl) (by decide) ?_
  exact loop (bpc b n) 0 (by omega) rfl
theorem m_parentBy (hl : l.stackTraces = false) (hd : 4 ≤ d) (hs : zSt g) {b : zWo} (hB : rB I b) {D : Nat → Option Nat} {c : Nat → Nat} {p u : Nat} (hF : ∀ q, q < 64 → I 557 q = oI (D q)) (hc : I 558 p = nI (c p)) (hbd : ∀ q v, q < 64 → D q = some v → v ≤ 63936) (hp0 : p < 64) (hi : insM b p = true) (hu : D p = some u) (hcu : c p ≤ u) : zD l Xi mX13_parentBy d [.ref 74, .int (nI p)] I g (some (.int (oI (wbM b D c p)))) I := by
  refine zC_of hl rfl rfl rfl (Nat.le_of_ble_eq_true rfl) (zav_r (zSt_ob hs 74 13 rfl).1 (zav_i zav_0)) ?_
  have hb := hB.1
  have hub := hbd p u hp0 hu
  have hfp : I 557 p = nI u := by rw [hF p hp0, hu]; rfl
  have loop : ∀ m v, v + m = 4 → (∀ v', v' < v → wbB b D c p v' = false) → zJ l Xi mX13_parentBy d 0 0 2 [some (.ref 74), some (.int (nI p)), some (.int (nI v)), none] [] (I, g) (fun r' h' => r' = .inl (some (.int (oI (wbM b D c p)))) ∧ h' = (I, g)) := by
    intro m
    induction m with
    | zero =>
      intro v hp hI
      obtain rfl : v = 4 := by omega
      refine zJ_iload_n dX13_parentBy_2 rfl ?_
      refine zJ_iconst (v := nI 4) dX13_parentBy_3 rfl ?_
      refine zJ_icmp_ge 59 dX13_parentBy_4 (by decide) (fun _ => ?_) (fun c4 => absurd (nI_le (by omega) (by omega)) c4)
      refine zJ_iconst (v := -1) dX13_parentBy_59 rfl ?_
      refine zJ_iret rfl dX13_parentBy_60 ?_
      exact ⟨by rw [wb_none hI]; rfl, rfl⟩
    | succ m ih =>
      intro v hp hI
      refine zJ_iload_n dX13_parentBy_2 rfl ?_
      refine zJ_iconst (v := nI 4) dX13_parentBy_3 rfl ?_
      refine zJ_icmp_ge 59 dX13_parentBy_4 (by decide) (fun c4 => absurd c4 (nI_ge (by omega) (by omega))) (fun _ => ?_)
      refine zJ_aload_n dX13_parentBy_7 rfl ?_
      refine zJ_iload_n dX13_parentBy_8 rfl ?_
      refine zJ_iload_n dX13_parentBy_9 rfl ?_
      refine zP_callVi [_, _] _ lv_X13_309 (k_neighbour (d := d - 1) hl (by omega) hs hB hp0 hi (by omega)) (zSt_ob hs 74 13 rfl) rfl (by omega) (Nat.le_of_ble_eq_true rfl) rfl dX13_parentBy_10 ?_
      refine zJ_istore_m 3 dX13_parentBy_13 rfl (Nat.le_of_ble_eq_true rfl) (by decide) ?_
      refine zJ_iload_n dX13_parentBy_14 rfl ?_
      refine zJ_iconst (v := -1) dX13_parentBy_15 rfl ?_
      refine zJ_icmp_eq 53 dX13_parentBy_16 (by decide) (fun c16 => ?_) (fun c16 => ?_)
      · skip
        refine zJ_iinc1 dX13_parentBy_53 rfl (by decide) ?_
        refine zJ_goto 2 dX13_parentBy_56 (by decide) ?_
        refine zJ_back (zle_r (zle_r (zle_r (zle_n zle_0)))) rfl (ih (v + 1) (by omega) (fun v' hv' => ?_))
        by_cases z : v' = v
        · subst z
          unfold wbB
          have hz : nbr b p v' = none := by
            cases z : nbr b p v' with
            | none => rfl
            | some e => rw [z] at c16; exact absurd c16 (nI_ne1 (by have := nbr_lt hb hp0 z; omega))
          rw [hz]
        · exact hI v' (by omega)
      · skip
        obtain ⟨e, he⟩ : ∃ e, nbr b p v = some e := by cases z : nbr b p v with | none => exact absurd (by rw [z]; rfl) c16 | some e => exact ⟨e, rfl⟩
        have he64 := nbr_lt hb hp0 he
        simp only [he, oI]
        refine zJ_aload_n dX13_parentBy_19 rfl ?_
        refine zP_getr lf_X13_85 (zSt_ob hs 74 13 rfl) rfl (zSt_rf hs 74 40 557 rfl) dX13_parentBy_20 ?_
        refine zJ_iload_n dX13_parentBy_23 rfl ?_
        refine zP_iald (zSt_ar hs 557 64 rfl) (by first | assumption | with_reducible exact vp_in_nI (by omega) (by omega) | (simp (disch := omega) only [nI_add, pk_mul, pk_sub, pk_div, pk_rem, nI_clamp]; with_reducible exact vp_in_nI (by omega) (by omega))) dX13_parentBy_24 ?_
        rw [nI_clamp (by omega), hF e he64]
        refine zJ_iconst (v := -1) dX13_parentBy_25 rfl ?_
        refine zJ_icmp_eq 53 dX13_parentBy_26 (by decide) (fun c26 => ?_) (fun c26 => ?_)
        · skip
          refine zJ_iinc1 dX13_parentBy_53 rfl (by decide) ?_
          refine zJ_goto 2 dX13_parentBy_56 (by decide) ?_
          refine zJ_back (zle_r (zle_r (zle_r (zle_n zle_0)))) rfl (ih (v + 1) (by omega) (fun v' hv' => ?_))
          by_cases z : v' = v
          · subst z
            have hz : D e = none := by
              cases z : D e with
              | none => rfl
              | some y => rw [z] at c26; exact absurd c26 (nI_ne1 (by have := hbd e y he64 z; omega))
            simp only [wbB, he, hz]
          · exact hI v' (by omega)
        · skip
          obtain ⟨y, hy⟩ : ∃ y, D e = some y := by cases z : D e with | none => exact absurd (by rw [z]; rfl) c26 | some e => exact ⟨e, rfl⟩
          have hyb := hbd e y he64 hy
          have hfe : I 557 e = nI y := by rw [hF e he64, hy]; rfl
          refine zJ_aload_n dX13_parentBy_29 rfl ?_
          refine zP_getr lf_X13_85 (zSt_ob hs 74 13 rfl) rfl (zSt_rf hs 74 40 557 rfl) dX13_parentBy_30 ?_
          refine zJ_iload_n dX13_parentBy_33 rfl ?_
          refine zP_iald (zSt_ar hs 557 64 rfl) (by first | assumption | with_reducible exact vp_in_nI (by omega) (by omega) | (simp (disch := omega) only [nI_add, pk_mul, pk_sub, pk_div, pk_rem, nI_clamp]; with_reducible exact vp_in_nI (by omega) (by omega))) dX13_parentBy_34 ?_
          rw [nI_clamp (by omega), hfe]
          refine zJ_aload_n dX13_parentBy_35 rfl ?_
          refine zP_getr lf_X13_85 (zSt_ob hs 74 13 rfl) rfl (zSt_rf hs 74 40 557 rfl) dX13_parentBy_36 ?_
          refine zJ_iload_n dX13_parentBy_39 rfl ?_
          refine zP_iald (zSt_ar hs 557 64 rfl) (by first | assumption | with_reducible exact vp_in_nI (by omega) (by omega) | (simp (disch := omega) only [nI_add, pk_mul, pk_sub, pk_div, pk_rem, nI_clamp]; with_reducible exact vp_in_nI (by omega) (by omega))) dX13_parentBy_40 ?_
          rw [nI_clamp (by omega), hfp]
          refine zJ_aload_n dX13_parentBy_41 rfl ?_
          refine zP_getr lf_X13_88 (zSt_ob hs 74 13 rfl) rfl (zSt_rf hs 74 41 558 rfl) dX13_parentBy_42 ?_
          refine zJ_iload_n dX13_parentBy_45 rfl ?_
          refine zP_iald (zSt_ar hs 558 64 rfl) (by first | assumption | with_reducible exact vp_in_nI (by omega) (by omega) | (simp (disch := omega) only [nI_add, pk_mul, pk_sub, pk_div, pk_rem, nI_clamp]; with_reducible exact vp_in_nI (by omega) (by omega))) dX13_parentBy_46 ?_
          rw [nI_clamp (by omega), hc]
          refine zJ_isub dX13_parentBy_47 ?_
          rw [pk_sub hcu]
          refine zJ_icmp_ne 53 dX13_parentBy_48 (by decide) (fun c48 => ?_) (fun c48 => ?_)
          · skip
            refine zJ_iinc1 dX13_parentBy_53 rfl (by decide) ?_
            refine zJ_goto 2 dX13_parentBy_56 (by decide) ?_
            refine zJ_back (zle_r (zle_r (zle_r (zle_n zle_0)))) rfl (ih (v + 1) (by omega) (fun v' hv' => ?_))
            by_cases z : v' = v
            · subst z
              simp only [wbB, he, hy, hu]
              refine decide_eq_false (fun z => c48 ?_)
              injection z with z
              rw [z, Nat.add_sub_cancel]
            · exact hI v' (by omega)
          · skip
            refine zJ_iload_n dX13_parentBy_51 rfl ?_
            refine zJ_iret rfl dX13_parentBy_52 ?_
            have hwb : wbB b D c p v = true := by
              simp only [wbB, he, hy, hu]
              have := (nI_eq (by omega) (by omega)).mp c48
              exact decide_eq_true (by congr 1; omega)
            exact ⟨by rw [wb_some (by omega) hwb hI], rfl⟩
  refine zJ_iconst (v := nI 0) dX13_parentBy_0 rfl ?_
  refine zJ_istore_m 2 dX13_parentBy_1 rfl (Nat.le_of_ble_eq_true rfl) (by decide) ?_
  exact zJ_back (zle_r (zle_r (zle_r (zle_n zle_0)))) rfl (loop 4 0 (by omega) (fun v' hv' => absurd hv' (Nat.not_lt_zero _)))
def npI (o : Option (Nat × Nat)) : Int32 := match o with
  | none => -1
  | some q => nI q.1
theorem m_nextPin (hl : l.stackTraces = false) (hd : 3 ≤ d) (hs : zSt g) {b : zWo} {R : rwT} (hB : rB I b) {a n : Nat} {D : Nat → Option Nat} (ha : zAr g a 519) (hR : rRow I a b R) (hn : n < bN b) (hF : ∀ q, q < 64 → I 557 q = oI (D q)) (hbd : ∀ q v, q < 64 → D q = some v → v ≤ 63936) : zD l Xi mX13_nextPin d [.ref 74, .ref a, .int (nI n)] I g (some (.int (npI (npM b (tin R n) D n (bpc b n))))) I := by
  refine zC_of hl rfl rfl rfl (Nat.le_of_ble_eq_true rfl) (zav_r (zSt_ob hs 74 13 rfl).1 (zav_r ha.1 (zav_i zav_0))) ?_
  have hN6 := hB.1.2.2.2.2.1
  have h4 := hB.1.2.2.2.2.2.1 n (by omega)
  have hc : I (89 + 1 + n) (nI 2).toNatClampNeg = nI (bpc b n) := by rw [nI_clamp (by omega)]; exact (hB.2.2.2.1 n hn).2
  have loop : ∀ m p, p + m = bpc b n → zJ l Xi mX13_nextPin d 0 0 5 [some (.ref 74), some (.ref a), some (.int (nI n)), some (.int (npI (npM b (tin R n) D n p))), some (.int (nI p)), none] [] (I, g) (fun r' h' => r' = .inl (some (.int (npI (npM b (tin R n) D n (bpc b n))))) ∧ h' = (I, g)) := by
    intro m
    induction m with
    | zero =>
      intro p hp
      obtain rfl : p = bpc b n := by omega
      refine zJ_iload dX13_nextPin_5 rfl ?_
      refine zJ_aload_n dX13_nextPin_7 rfl ?_
      refine zP_getr lf_X13_40 (zSt_ob hs 74 13 rfl) rfl (zSt_rf hs 74 17 89 rfl) dX13_nextPin_8 ?_
      refine zJ_iload_n dX13_nextPin_11 rfl ?_
      refine zP_rowK (k := n) (zSt_g89 hs) (by omega) (by decide) dX13_nextPin_12 ?_
      refine zJ_iconst (v := nI 2) dX13_nextPin_13 rfl ?_
      refine zP_iald (zGr_ar (zSt_g89 hs) (i := n) (by omega)) (by first | assumption | with_reducible exact vp_in_nI (by omega) (by omega) | (simp (disch := omega) only [nI_add, pk_mul, pk_sub, pk_div, pk_rem, nI_clamp]; with_reducible exact vp_in_nI (by omega) (by omega))) dX13_nextPin_14 ?_
      refine zJ_icmp_ge 87 dX13_nextPin_15 (by decide) (fun _ => ?_) (fun c15 => absurd (by rw [hc]; exact nI_le (by omega) (by omega)) c15)
      refine zJ_iload_n dX13_nextPin_87 rfl ?_
      refine zJ_iret rfl dX13_nextPin_88 ?_
      exact ⟨rfl, rfl⟩
    | succ m ih =>
      intro p hp
      have hpin := hB.2.2.2.2.1 n p hn (by omega)
      have hp64 := (hB.1.2.2.2.2.2.2.1 n p (by omega) (by omega)).1
      have hta : tin (I a) n (bpn b n p) = tin R n (bpn b n p) := r_tin hR (by omega) hp64
      have hst := np_step (b := b) (T := tin R n) (D := D) (n := n) (k := p)
      refine zJ_iload dX13_nextPin_5 rfl ?_
      refine zJ_aload_n dX13_nextPin_7 rfl ?_
      refine zP_getr lf_X13_40 (zSt_ob hs 74 13 rfl) rfl (zSt_rf hs 74 17 89 rfl) dX13_nextPin_8 ?_
      refine zJ_iload_n dX13_nextPin_11 rfl ?_
      refine zP_rowK (k := n) (zSt_g89 hs) (by omega) (by decide) dX13_nextPin_12 ?_
      refine zJ_iconst (v := nI 2) dX13_nextPin_13 rfl ?_
      refine zP_iald (zGr_ar (zSt_g89 hs) (i := n) (by omega)) (by first | assumption | with_reducible exact vp_in_nI (by omega) (by omega) | (simp (disch := omega) only [nI_add, pk_mul, pk_sub, pk_div, pk_rem, nI_clamp]; with_reducible exact vp_in_nI (by omega) (by omega))) dX13_nextPin_14 ?_
      refine zJ_icmp_ge 87 dX13_nextPin_15 (by decide) (fun c15 => absurd c15 (by rw [hc]; exact nI_ge (by omega) (by omega))) (fun _ => ?_)
      refine zJ_aload_n dX13_nextPin_18 rfl ?_
      refine zP_getr lf_X13_46 (zSt_ob hs 74 13 rfl) rfl (zSt_rf hs 74 19 103 rfl) dX13_nextPin_19 ?_
      refine zJ_iload_n dX13_nextPin_22 rfl ?_
      refine zP_rowK (k := n) (zSt_g103 hs) (by omega) (by decide) dX13_nextPin_23 ?_
      refine zJ_iload dX13_nextPin_24 rfl ?_
      refine zP_iald (zGr_ar (zSt_g103 hs) (i := n) (by omega)) (by first | assumption | with_reducible exact vp_in_nI (by omega) (by omega) | (simp (disch := omega) only [nI_add, pk_mul, pk_sub, pk_div, pk_rem, nI_clamp]; with_reducible exact vp_in_nI (by omega) (by omega))) dX13_nextPin_26 ?_
      rw [nI_clamp (by omega), hpin]
      refine zJ_istore dX13_nextPin_27 (Nat.le_of_ble_eq_true rfl) (by decide) ?_
      refine zJ_aload_n dX13_nextPin_29 rfl ?_
      refine zJ_iload_n dX13_nextPin_30 rfl ?_
      refine zJ_iload dX13_nextPin_31 rfl ?_
      refine zP_callSi [_, _, _] _ ls_X13_287 (k_isIn (d := d - 1) hl (by omega) ha (by omega) hp64) rfl (by omega) (Nat.le_of_ble_eq_true rfl) rfl dX13_nextPin_33 ?_
      refine zJ_if_ne 81 dX13_nextPin_36 (by decide) (fun c36 => ?_) (fun c36 => ?_)
      · replace c36 := zb1.mp c36
        refine zJ_iinc1 dX13_nextPin_81 rfl (by decide) ?_
        refine zJ_goto 5 dX13_nextPin_84 (by decide) ?_
        rw [hta] at c36
        rw [if_pos c36] at hst
        exact zJ_back (zle_r (zle_r (zle_r (zle_i (by rw [hst]) (zle_r (zle_n zle_0)))))) rfl (ih (p + 1) (by omega))
      · replace c36 := zb0.mp c36
        refine zJ_aload_n dX13_nextPin_39 rfl ?_
        refine zP_getr lf_X13_85 (zSt_ob hs 74 13 rfl) rfl (zSt_rf hs 74 40 557 rfl) dX13_nextPin_40 ?_
        refine zJ_iload dX13_nextPin_43 rfl ?_
        refine zP_iald (zSt_ar hs 557 64 rfl) (by first | assumption | with_reducible exact vp_in_nI (by omega) (by omega) | (simp (disch := omega) only [nI_add, pk_mul, pk_sub, pk_div, pk_rem, nI_clamp]; with_reducible exact vp_in_nI (by omega) (by omega))) dX13_nextPin_45 ?_
        rw [nI_clamp (by omega), hF _ hp64]
        refine zJ_iconst (v := -1) dX13_nextPin_46 rfl ?_
        refine zJ_icmp_ne 53 dX13_nextPin_47 (by decide) (fun c47 => ?_) (fun c47 => ?_)
        · skip
          obtain ⟨y, hy⟩ : ∃ y, D (bpn b n p) = some y := by cases z : D (bpn b n p) with | none => exact absurd (by rw [z]; rfl) c47 | some e => exact ⟨e, rfl⟩
          have hyb := hbd _ y hp64 hy
          have hfy : I 557 (bpn b n p) = nI y := by rw [hF _ hp64, hy]; rfl
          rw [hta] at c36
          refine zJ_iload_n dX13_nextPin_53 rfl ?_
          refine zJ_iconst (v := -1) dX13_nextPin_54 rfl ?_
          refine zJ_icmp_eq 74 dX13_nextPin_55 (by decide) (fun c55 => ?_) (fun c55 => ?_)
          · skip
            refine zJ_iload dX13_nextPin_74 rfl ?_
            refine zJ_goto 80 dX13_nextPin_76 (by decide) ?_
            refine zJ_istore_m 3 dX13_nextPin_80 rfl (Nat.le_of_ble_eq_true rfl) (by decide) ?_
            refine zJ_iinc1 dX13_nextPin_81 rfl (by decide) ?_
            refine zJ_goto 5 dX13_nextPin_84 (by decide) ?_
            have hz : npM b (tin R n) D n p = none := by
              cases z : npM b (tin R n) D n p with
              | none => rfl
              | some q =>
                obtain ⟨nq1, nq2, ni, nq3, nq4⟩ := np_in (q := q.1) (u := q.2) z
                rw [z] at c55
                exact absurd c55 (nI_ne1 (by rw [← nq4]; have := (hB.1.2.2.2.2.2.2.1 n ni (by omega) (by omega)).1; omega))
            rw [if_neg (by rw [c36]; decide), hy, hz] at hst
            exact zJ_back (zle_r (zle_r (zle_r (zle_i (by rw [hst]; rfl) (zle_r (zle_n zle_0)))))) rfl (ih (p + 1) (by omega))
          · skip
            obtain ⟨q, u, hq⟩ : ∃ q u, npM b (tin R n) D n p = some (q, u) := by cases z : npM b (tin R n) D n p with | none => exact absurd (by rw [z]; rfl) c55 | some e => exact ⟨e.1, e.2, rfl⟩
            obtain ⟨nq1, nq2, ni, nq3, nq4⟩ := np_in hq
            have hq64 : q < 64 := by rw [← nq4]; exact (hB.1.2.2.2.2.2.2.1 n ni (by omega) (by omega)).1
            have hfu : I 557 q = nI u := by rw [hF q hq64, nq2]; rfl
            have hub := hbd q u hq64 nq2
            simp only [hq, npI]
            refine zJ_aload_n dX13_nextPin_58 rfl ?_
            refine zP_getr lf_X13_85 (zSt_ob hs 74 13 rfl) rfl (zSt_rf hs 74 40 557 rfl) dX13_nextPin_59 ?_
            refine zJ_iload dX13_nextPin_62 rfl ?_
            refine zP_iald (zSt_ar hs 557 64 rfl) (by first | assumption | with_reducible exact vp_in_nI (by omega) (by omega) | (simp (disch := omega) only [nI_add, pk_mul, pk_sub, pk_div, pk_rem, nI_clamp]; with_reducible exact vp_in_nI (by omega) (by omega))) dX13_nextPin_64 ?_
            rw [nI_clamp (by omega), hfy]
            refine zJ_aload_n dX13_nextPin_65 rfl ?_
            refine zP_getr lf_X13_85 (zSt_ob hs 74 13 rfl) rfl (zSt_rf hs 74 40 557 rfl) dX13_nextPin_66 ?_
            refine zJ_iload_n dX13_nextPin_69 rfl ?_
            refine zP_iald (zSt_ar hs 557 64 rfl) (by first | assumption | with_reducible exact vp_in_nI (by omega) (by omega) | (simp (disch := omega) only [nI_add, pk_mul, pk_sub, pk_div, pk_rem, nI_clamp]; with_reducible exact vp_in_nI (by omega) (by omega))) dX13_nextPin_70 ?_
            rw [nI_clamp (by omega), hfu]
            refine zJ_icmp_ge 79 dX13_nextPin_71 (by decide) (fun c71 => ?_) (fun c71 => ?_)
            · skip
              refine zJ_iload_n dX13_nextPin_79 rfl ?_
              refine zJ_istore_m 3 dX13_nextPin_80 rfl (Nat.le_of_ble_eq_true rfl) (by decide) ?_
              refine zJ_iinc1 dX13_nextPin_81 rfl (by decide) ?_
              refine zJ_goto 5 dX13_nextPin_84 (by decide) ?_
              rw [if_neg (by rw [c36]; decide), hy, hq] at hst
              simp only [] at hst
              rw [if_neg (show ¬ y < u by have := (nI_leI (by omega) (by omega)).mp c71; omega)] at hst
              exact zJ_back (zle_r (zle_r (zle_r (zle_i (by rw [hst]; rfl) (zle_r (zle_n zle_0)))))) rfl (ih (p + 1) (by omega))
            · skip
              refine zJ_iload dX13_nextPin_74 rfl ?_
              refine zJ_goto 80 dX13_nextPin_76 (by decide) ?_
              refine zJ_istore_m 3 dX13_nextPin_80 rfl (Nat.le_of_ble_eq_true rfl) (by decide) ?_
              refine zJ_iinc1 dX13_nextPin_81 rfl (by decide) ?_
              refine zJ_goto 5 dX13_nextPin_84 (by decide) ?_
              rw [if_neg (by rw [c36]; decide), hy, hq] at hst
              simp only [] at hst
              rw [if_pos (Nat.lt_of_not_le (fun z => c71 ((nI_leI (by omega) (by omega)).mpr z)))] at hst
              exact zJ_back (zle_r (zle_r (zle_r (zle_i (by rw [hst]; rfl) (zle_r (zle_n zle_0)))))) rfl (ih (p + 1) (by omega))
        · skip
          refine zJ_goto 81 dX13_nextPin_50 (by decide) ?_
          refine zJ_iinc1 dX13_nextPin_81 rfl (by decide) ?_
          refine zJ_goto 5 dX13_nextPin_84 (by decide) ?_
          rw [hta] at c36
          have hz : D (bpn b n p) = none := by
            cases z : D (bpn b n p) with
            | none => rfl
            | some y => rw [z] at c47; exact absurd c47 (nI_ne1 (by have := hbd _ y hp64 z; omega))
          rw [if_neg (by rw [c36]; decide), hz] at hst
          exact zJ_back (zle_r (zle_r (zle_r (zle_i (by rw [hst]) (zle_r (zle_n zle_0)))))) rfl (ih (p + 1) (by omega))
  refine zJ_iconst (v := -1) dX13_nextPin_0 rfl ?_
  refine zJ_istore_m 3 dX13_nextPin_1 rfl (Nat.le_of_ble_eq_true rfl) (by decide) ?_
  refine zJ_iconst (v := nI 0) dX13_nextPin_2 rfl ?_
  refine zJ_istore dX13_nextPin_3 (Nat.le_of_ble_eq_true rfl) (by decide) ?_
  exact loop (bpc b n) 0 (by omega)
theorem rRow_upd {a b0 k : Nat} {b : zWo} {R : rwT} {x : Int32} (h : rRow I a b R) (hb : b0 = a) (hk : k < 519) : rRow (zup I b0 k x) a b (upd R k x) := by
  subst hb
  have e : ∀ j, I b0 j = R j → zup I b0 k x b0 j = upd R k x j := fun j hj => by
    rw [zup_same]
    by_cases z : j = k
    · subst z; rw [upd_at, upd_at]
    · rw [upd_ne z, upd_ne z]; exact hj
  exact ⟨fun j hj => e j (h.1 j hj), fun n hn => e _ (h.2.1 n hn), e _ h.2.2⟩
theorem rRow_eq {a : Nat} {b : zWo} {R R' : rwT} (h : rRow I a b R) (e : ∀ k, k < 519 → R' k = R k) (hN : bN b ≤ 6) : rRow I a b R' := ⟨fun k hk => by rw [e k (by omega)]; exact h.1 k hk, fun n hn => by rw [e _ (by omega)]; exact h.2.1 n hn, by rw [e _ (by omega)]; exact h.2.2⟩
def fOn (a : Nat) (I J : zI) : Prop := ∀ c, c ≠ a → J c = I c
theorem m_ripsAll (hl : l.stackTraces = false) (hd : 2 ≤ d) {b : zWo} {R : rwT} {a n : Nat} (ha : zAr g a 519) (hR : rRow I a b R) (hN : bN b ≤ 6) (hn : n < 6) : zEv l Xi mX13_ripsAll d [.ref a, .int (nI n)] I g (fun J => fOn a I J ∧ rRow J a b (ripM R n)) := by
  refine zC_of hl rfl rfl rfl (Nat.le_of_ble_eq_true rfl) (zav_r ha.1 (zav_i zav_0)) ?_
  have loop : ∀ m p, p + m = 64 → ∀ (J : zI), (fOn a I J ∧ rRow J a b (ripN R n p)) → zJ l Xi mX13_ripsAll d 0 0 2 [some (.ref a), some (.int (nI n)), some (.int (nI p))] [] (J, g) (fun r' h' => r' = .inl none ∧ ∃ I', h' = (I', g) ∧ fOn a I I' ∧ rRow I' a b (ripM R n)) := by
    intro m
    induction m with
    | zero =>
      intro p hp J hI
      obtain rfl : p = 64 := by omega
      refine zJ_iload_n dX13_ripsAll_2 rfl ?_
      refine zJ_bipush (v := nI 64) dX13_ripsAll_3 rfl ?_
      refine zJ_icmp_ge 22 dX13_ripsAll_5 (by decide) (fun _ => ?_) (fun c5 => absurd (nI_le (by omega) (by omega)) c5)
      refine zJ_vret rfl dX13_ripsAll_22 ?_
      exact ⟨rfl, J, rfl, hI.1, hI.2⟩
    | succ m ih =>
      intro p hp J hI
      refine zJ_iload_n dX13_ripsAll_2 rfl ?_
      refine zJ_bipush (v := nI 64) dX13_ripsAll_3 rfl ?_
      refine zJ_icmp_ge 22 dX13_ripsAll_5 (by decide) (fun c5 => absurd c5 (nI_ge (by omega) (by omega))) (fun _ => ?_)
      refine zJ_aload_n dX13_ripsAll_8 rfl ?_
      refine zJ_iload_n dX13_ripsAll_9 rfl ?_
      refine zJ_iload_n dX13_ripsAll_10 rfl ?_
      refine zP_callSi [_, _] _ ls_X13_284 (k_treeOf (d := d - 1) hl (by omega)) rfl (by omega) (Nat.le_of_ble_eq_true rfl) rfl dX13_ripsAll_11 ?_
      refine zJ_iconst (v := -1) dX13_ripsAll_14 rfl ?_
      refine zP_iast ha (by first | assumption | with_reducible exact vp_in_nI (by omega) (by omega) | (simp (disch := omega) only [nI_add, pk_mul, pk_sub, pk_div, pk_rem, nI_clamp]; with_reducible exact vp_in_nI (by omega) (by omega))) dX13_ripsAll_15 ?_
      refine zJ_iinc1 dX13_ripsAll_16 rfl (by decide) ?_
      refine zJ_goto 2 dX13_ripsAll_19 (by decide) ?_
      rw [nI_clamp (by omega)]
      refine zJ_back (zle_r (zle_r (zle_r zle_0))) rfl (ih (p + 1) (by omega) _ ⟨fun c hc => (zup_row hc).trans (hI.1 c hc), rRow_eq (rRow_upd hI.2 rfl (by omega)) (fun k hk => ?_) hN⟩)
      unfold ripN
      by_cases z : k = n * 64 + p
      · rw [z, upd_at, if_pos (by omega)]
      · rw [upd_ne z]
        by_cases z2 : n * 64 ≤ k ∧ k < n * 64 + p
        · rw [if_pos (by omega), if_pos z2]
        · rw [if_neg (by omega), if_neg z2]
  refine zJ_iconst (v := nI 0) dX13_ripsAll_0 rfl ?_
  refine zJ_istore_m 2 dX13_ripsAll_1 rfl (Nat.le_of_ble_eq_true rfl) (by decide) ?_
  exact loop 64 0 (by omega) I ⟨fun _ _ => rfl, rRow_eq hR (fun k hk => by unfold ripN; rw [if_neg (by omega)]) hN⟩
theorem m_placesOf (hl : l.stackTraces = false) (hd : 3 ≤ d) {b : zWo} {R : rwT} {a n : Nat} (ha : zAr g a 519) (hR : rRow I a b R) (hn : n < 6) : zD l Xi mX13_placesOf d [.ref a, .int (nI n)] I g (some (.int (cntF (tin R n) 64))) I := by
  refine zC_of hl rfl rfl rfl (Nat.le_of_ble_eq_true rfl) (zav_r ha.1 (zav_i zav_0)) ?_
  have loop : ∀ m p, p + m = 64 → zJ l Xi mX13_placesOf d 0 0 4 [some (.ref a), some (.int (nI n)), some (.int (cntF (tin R n) p)), some (.int (nI p))] [] (I, g) (fun r' h' => r' = .inl (some (.int (cntF (tin R n) 64))) ∧ h' = (I, g)) := by
    intro m
    induction m with
    | zero =>
      intro p hp
      obtain rfl : p = 64 := by omega
      refine zJ_iload_n dX13_placesOf_4 rfl ?_
      refine zJ_bipush (v := nI 64) dX13_placesOf_5 rfl ?_
      refine zJ_icmp_ge 33 dX13_placesOf_7 (by decide) (fun _ => ?_) (fun c7 => absurd (nI_le (by omega) (by omega)) c7)
      refine zJ_iload_n dX13_placesOf_33 rfl ?_
      refine zJ_iret rfl dX13_placesOf_34 ?_
      exact ⟨rfl, rfl⟩
    | succ m ih =>
      intro p hp
      refine zJ_iload_n dX13_placesOf_4 rfl ?_
      refine zJ_bipush (v := nI 64) dX13_placesOf_5 rfl ?_
      refine zJ_icmp_ge 33 dX13_placesOf_7 (by decide) (fun c7 => absurd c7 (nI_ge (by omega) (by omega))) (fun _ => ?_)
      refine zJ_iload_n dX13_placesOf_10 rfl ?_
      refine zJ_aload_n dX13_placesOf_11 rfl ?_
      refine zJ_iload_n dX13_placesOf_12 rfl ?_
      refine zJ_iload_n dX13_placesOf_13 rfl ?_
      refine zP_callSi [_, _, _] _ ls_X13_287 (k_isIn (d := d - 1) hl (by omega) ha hn (by omega)) rfl (by omega) (Nat.le_of_ble_eq_true rfl) rfl dX13_placesOf_14 ?_
      refine zJ_if_eq 24 dX13_placesOf_17 (by decide) (fun c17 => ?_) (fun c17 => ?_)
      · replace c17 := zb0.mp c17
        refine zJ_iconst (v := nI 0) dX13_placesOf_24 rfl ?_
        refine zJ_iadd dX13_placesOf_25 ?_
        refine zJ_istore_m 2 dX13_placesOf_26 rfl (Nat.le_of_ble_eq_true rfl) (by decide) ?_
        refine zJ_iinc1 dX13_placesOf_27 rfl (by decide) ?_
        refine zJ_goto 4 dX13_placesOf_30 (by decide) ?_
        rw [r_tin hR hn (by omega)] at c17
        refine zJ_eq ?_ rfl rfl (ih (p + 1) (by omega))
        simp [cntF, lp, c17, nI1, nI0]
      · replace c17 := zb1.mp c17
        refine zJ_iconst (v := nI 1) dX13_placesOf_20 rfl ?_
        refine zJ_goto 25 dX13_placesOf_21 (by decide) ?_
        refine zJ_iadd dX13_placesOf_25 ?_
        refine zJ_istore_m 2 dX13_placesOf_26 rfl (Nat.le_of_ble_eq_true rfl) (by decide) ?_
        refine zJ_iinc1 dX13_placesOf_27 rfl (by decide) ?_
        refine zJ_goto 4 dX13_placesOf_30 (by decide) ?_
        rw [r_tin hR hn (by omega)] at c17
        refine zJ_eq ?_ rfl rfl (ih (p + 1) (by omega))
        simp [cntF, lp, c17, nI1, nI0]
  refine zJ_iconst (v := nI 0) dX13_placesOf_0 rfl ?_
  refine zJ_istore_m 2 dX13_placesOf_1 rfl (Nat.le_of_ble_eq_true rfl) (by decide) ?_
  refine zJ_iconst (v := nI 0) dX13_placesOf_2 rfl ?_
  refine zJ_istore_m 3 dX13_placesOf_3 rfl (Nat.le_of_ble_eq_true rfl) (by decide) ?_
  exact loop 64 0 (by omega)
theorem any_cB {f : Nat → Bool} : ∀ {n : Nat}, cB f n = 0 ↔ anyB f n = false
  | 0 => ⟨fun _ => rfl, fun _ => rfl⟩
  | n + 1 => by
    simp only [cB, anyB, Bool.or_eq_false_iff, ← any_cB (f := f) (n := n)]
    cases f n <;> simp
theorem cnt_any {f : Nat → Bool} {n : Nat} (hn : n ≤ 64) : cntF f n = 0 ↔ anyB f n = false := by
  have h : cB f n ≤ n := cB_le
  rw [cntF_nI, ← any_cB]
  exact ⟨fun e => (nI_eq (by omega) (by omega)).mp e, fun e => by rw [e]; rfl⟩
theorem m_rips (hl : l.stackTraces = false) (hd : 4 ≤ d) (hs : zSt g) {b : zWo} {R : rwT} {a n : Nat} (ha : zAr g a 519) (hR : rRow I a b R) (hN : bN b ≤ 6) (hn : n < 6) : zEi l Xi mX13_rips d [.ref 74, .ref a, .int (nI n)] I g (fun v J => v = (if anyB (tin R n) 64 then 1 else 0) ∧ fOn a I J ∧ rRow J a b (ripM R n)) := by
  refine zC_of hl rfl rfl rfl (Nat.le_of_ble_eq_true rfl) (zav_r (zSt_ob hs 74 13 rfl).1 (zav_r ha.1 (zav_i zav_0))) ?_
  refine zJ_aload_n dX13_rips_0 rfl ?_
  refine zJ_iload_n dX13_rips_1 rfl ?_
  refine zP_callSi [_, _] _ ls_X13_332 (m_placesOf (d := d - 1) hl (by omega) ha hR hn) rfl (by omega) (Nat.le_of_ble_eq_true rfl) rfl dX13_rips_2 ?_
  refine zJ_if_ne 10 dX13_rips_5 (by decide) (fun c5 => ?_) (fun c5 => ?_)
  · skip
    refine zJ_aload_n dX13_rips_10 rfl ?_
    refine zJ_iload_n dX13_rips_11 rfl ?_
    refine zP_ecallSv [_, _] _ ls_X13_326 (m_ripsAll (d := d - 1) hl (by omega) ha hR hN hn) rfl (by omega) (Nat.le_of_ble_eq_true rfl) rfl dX13_rips_12 (fun J h => ?_)
    refine zJ_iconst (v := nI 1) dX13_rips_15 rfl ?_
    refine zJ_zret rfl (by decide) dX13_rips_16 ?_
    have e : anyB (tin R n) 64 = true := by
      cases z : anyB (tin R n) 64 with
      | true => rfl
      | false => exact absurd ((cnt_any (Nat.le_refl _)).mpr z) c5
    exact ⟨_, J, rfl, rfl, by rw [e]; rfl, h⟩
  · skip
    refine zJ_iconst (v := nI 0) dX13_rips_8 rfl ?_
    refine zJ_zret rfl (by decide) dX13_rips_9 ?_
    have e := (cnt_any (Nat.le_refl _)).mp c5
    refine ⟨_, I, rfl, rfl, by rw [e]; rfl, fun _ _ => rfl, rRow_eq hR (fun k hk => ?_) hN⟩
    unfold ripM
    split
    · next z =>
      have h1 : tin R n (k - n * 64) = false := by
        cases z2 : tin R n (k - n * 64) with
        | false => rfl
        | true => rw [anyB_iff.mpr ⟨k - n * 64, by omega, z2⟩] at e; cases e
      have h2 := of_decide_eq_false h1
      rw [show n * 64 + (k - n * 64) = k by omega] at h2
      exact (Classical.not_not.mp h2).symm
    · rfl
end ZRefE
