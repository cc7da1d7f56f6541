/-! ===== the reference: a clause ===== -/
section ZRefAG
variable {l : Launch} {Xi : zXi} {d : Nat} {I : zI} {g : zG}
theorem kdC_le {bs : Nat → Nat} {a w : Nat} : kdC bs a w ≤ 6 := by
  unfold kdC
  repeat' split
  all_goals omega
theorem rRb_told {r : zRb} {x y z : Nat} (h : rRb I r) (hN : rN r ≤ 6) (J : zI) (e : ∀ a, a ≠ 74 → a ≠ 77 → J a = I a) (h0 : J 77 0 = nI x) (h1 : J 77 1 = nI y) (h2 : J 77 2 = nI (rN r)) (h3 : J 77 3 = nI z) : rRb J ((x, y, rN r, z), r.2) := by
  obtain ⟨a1, a2, a3, a4, a5⟩ := h
  exact ⟨⟨h0, h1, h2, h3⟩, fun n hn => by have : n < rN r := hn; rw [e _ (by omega) (by omega)]; exact a2 n hn, fun n i hn hi => by have : n < rN r := hn; rw [e _ (by omega) (by omega)]; exact a3 n i hn hi, fun p hp => by rw [e _ (by decide) (by decide)]; exact a4 p hp, fun p hp => by rw [e _ (by decide) (by decide)]; exact a5 p hp⟩
theorem rRb_wl {r : zRb} {p : Nat} (h : rRb I r) (hN : rN r ≤ 6) : rRb (zup I 79 p (nI 1)) (r.1, rcr r, rlm r, rpc r, rpn r, rwd r, un (rwl r) p true) := by
  obtain ⟨a1, a2, a3, a4, a5⟩ := h
  refine ⟨by rw [zup_row (by decide)]; exact a1, fun n hn => by have : n < rN r := hn; rw [zup_row (by omega)]; exact a2 n hn, fun n i hn hi => by have : n < rN r := hn; rw [zup_row (by omega)]; exact a3 n i hn hi, fun q hq => by rw [zup_row (by decide)]; exact a4 q hq, fun q hq => ?_⟩
  show zup I 79 p (nI 1) 79 q = if un (rwl r) p true q then 1 else 0
  rw [zup_same]
  by_cases z : q = p
  · rw [z, upd_at, un_at]; rfl
  · rw [upd_ne z, un_ne z]; exact a5 q hq
theorem rRb_wd {r : zRb} {p v : Nat} (h : rRb I r) (hN : rN r ≤ 6) : rRb (zup I 80 p (nI v)) (r.1, rcr r, rlm r, rpc r, rpn r, un (rwd r) p v, rwl r) := by
  obtain ⟨a1, a2, a3, a4, a5⟩ := h
  refine ⟨by rw [zup_row (by decide)]; exact a1, fun n hn => by have : n < rN r := hn; rw [zup_row (by omega)]; exact a2 n hn, fun n i hn hi => by have : n < rN r := hn; rw [zup_row (by omega)]; exact a3 n i hn hi, fun q hq => ?_, fun q hq => by rw [zup_row (by decide)]; exact a5 q hq⟩
  show zup I 80 p (nI v) 80 q = nI (un (rwd r) p v q)
  rw [zup_same]
  by_cases z : q = p
  · rw [z, upd_at, un_at]
  · rw [upd_ne z, un_ne z]; exact a4 q hq
set_option maxHeartbeats 2000000 in
theorem m_clause (hl : l.stackTraces = false) (hd : 6 ≤ d) (hs : zSt g) {bs : Nat → Nat} {L A cl : Nat} {r : zRb} (h : rz I bs L A none) (hr : rRb I r) (hok : rbOk r) (hcl : cl ≤ 60) (h7 : I 74 7 = nI cl) : zEv l Xi mX13_clause d [.ref 74] I g (fun J => fcl I J ∧ rP J bs L (pClause bs L cl r A) (fun r' => rRb J r' ∧ rbOk r' ∧ J 74 7 = nI (cl + 1))) := by
  refine zC_of hl rfl rfl rfl (Nat.le_of_ble_eq_true rfl) (zav_r (zSt_ob hs 74 13 rfl).1 zav_0) ?_
  have hN6 := hok.1.2.2.2.2.1
  obtain ⟨F, hF⟩ : ∃ F, sk bs L A = F := ⟨_, rfl⟩
  obtain ⟨W, hW⟩ : ∃ W, sp (ltB bs) L F = W := ⟨_, rfl⟩
  have hWo : woE bs L A = W := by unfold woE; rw [hF]; exact hW
  obtain ⟨k, hk⟩ : ∃ k, kdC bs F W = k := ⟨_, rfl⟩
  have hk6 : k ≤ 6 := by rw [← hk]; exact kdC_le
  have hcls : pClause bs L cl r A = if k = 6 then .inl (1, F) else if 60 ≤ cl ∨ (k = 3 ∧ 6 ≤ rN r) then .inl (3, F) else pbind (pBody bs L k r W) fun r A => pbind (pSign bs L 59 A) fun _ A => .inr (r, A) := by unfold pClause; rw [hF, hWo, hk]
  obtain ⟨Q, hQ⟩ : ∃ Q : zR → zH → Prop, Q = (fun r' h' => r' = .inl none ∧ ∃ I', h' = (I', g) ∧ fcl I I' ∧ rP I' bs L (pClause bs L cl r A) (fun r' => rRb I' r' ∧ rbOk r' ∧ I' 74 7 = nI (cl + 1))) := ⟨_, rfl⟩
  rw [← hQ]
  -- behind a fault at once
  have bad : ∀ (J : zI) (q : Nat × Nat), ft I J → rP J bs L (.inl q : PR Unit) (fun _ => True) → pClause bs L cl r A = .inl q → ∀ (x : Int32), zJ l Xi mX13_clause d 0 0 56 [some (.ref 74), some (.int x), none, none] [] (J, g) Q := by
    intro J q hf hp he x
    rw [hQ, he]
    refine zJ_aload_n dX13_clause_56 rfl ?_
    refine zP_geti lf_X13_123 (zSt_ob hs 74 13 rfl) rfl dX13_clause_57 ?_
    refine zJ_if_eq 64 dX13_clause_60 (by decide) (fun c60 => absurd c60 (rP_isE (q := q) hp)) (fun _ => ?_)
    refine zJ_vret rfl dX13_clause_63 ?_
    exact ⟨rfl, J, rfl, fcl_ft hf, rP_chg (q := q) hp⟩
  by_cases z6 : k = 6
  · rw [if_pos z6] at hcls
    refine zJ_aload_n dX13_clause_0 rfl ?_
    refine zP_ecallVi [] _ lv_X13_180 (m_kindHere (d := d - 1) hl (by omega) hs h hF hW) (zSt_ob hs 74 13 rfl) rfl (by omega) (Nat.le_of_ble_eq_true rfl) rfl dX13_clause_1 (fun v J hJ => ?_)
    obtain ⟨rfl, hf, hz⟩ := hJ
    rw [hk, if_pos z6]
    refine zJ_istore_m 1 dX13_clause_4 rfl (Nat.le_of_ble_eq_true rfl) (by decide) ?_
    refine zJ_iload_n dX13_clause_5 rfl ?_
    refine zJ_iconst (v := -1) dX13_clause_6 rfl ?_
    refine zJ_icmp_ne 22 dX13_clause_7 (by decide) (fun c7 => absurd rfl c7) (fun _ => ?_)
    refine zJ_aload_n dX13_clause_10 rfl ?_
    refine zJ_iconst (v := nI 1) dX13_clause_11 rfl ?_
    refine zJ_aload_n dX13_clause_12 rfl ?_
    refine zP_geti lf_X13_116 (zSt_ob hs 74 13 rfl) rfl dX13_clause_13 ?_
    rw [hz.2.2.1]
    refine zP_ecallVv [_, _] _ lv_X13_136 (m_wrongP (β := Unit) (Q := fun _ => True) (r := .inr ((), F)) (P := fun _ => True) (w := F) (d := d - 1) hl (by omega) hs (rP_mk hz trivial) (by omega) (by omega) rfl) (zSt_ob hs 74 13 rfl) rfl (by omega) (Nat.le_of_ble_eq_true rfl) rfl dX13_clause_16 (fun J2 h2 => ?_)
    refine zJ_goto 56 dX13_clause_19 (by decide) ?_
    exact bad J2 (1, F) (ft_trans hf h2.1) h2.2 hcls _
  rw [if_neg z6] at hcls
  by_cases zm : 60 ≤ cl ∨ (k = 3 ∧ 6 ≤ rN r)
  · rw [if_pos zm] at hcls
    refine zJ_aload_n dX13_clause_0 rfl ?_
    refine zP_ecallVi [] _ lv_X13_180 (m_kindHere (d := d - 1) hl (by omega) hs h hF hW) (zSt_ob hs 74 13 rfl) rfl (by omega) (Nat.le_of_ble_eq_true rfl) rfl dX13_clause_1 (fun v J hJ => ?_)
    obtain ⟨rfl, hf, hz⟩ := hJ
    rw [hk, if_neg z6]
    refine zJ_istore_m 1 dX13_clause_4 rfl (Nat.le_of_ble_eq_true rfl) (by decide) ?_
    refine zJ_iload_n dX13_clause_5 rfl ?_
    refine zJ_iconst (v := -1) dX13_clause_6 rfl ?_
    refine zJ_icmp_ne 22 dX13_clause_7 (by decide) (fun _ => ?_) (fun c7 => absurd c7 (nI_ne1 (by omega)))
    have h47 : zJ l Xi mX13_clause d 0 0 47 [some (.ref 74), some (.int (nI k)), none, none] [] (J, g) Q := by
      refine zJ_aload_n dX13_clause_47 rfl ?_
      refine zJ_iconst (v := nI 3) dX13_clause_48 rfl ?_
      refine zJ_aload_n dX13_clause_49 rfl ?_
      refine zP_geti lf_X13_116 (zSt_ob hs 74 13 rfl) rfl dX13_clause_50 ?_
      rw [hz.2.2.1]
      refine zP_ecallVv [_, _] _ lv_X13_136 (m_wrongP (β := Unit) (Q := fun _ => True) (r := .inr ((), F)) (P := fun _ => True) (w := F) (d := d - 1) hl (by omega) hs (rP_mk hz trivial) (by omega) (by omega) rfl) (zSt_ob hs 74 13 rfl) rfl (by omega) (Nat.le_of_ble_eq_true rfl) rfl dX13_clause_53 (fun J2 h2 => ?_)
      exact bad J2 (3, F) (ft_trans hf h2.1) h2.2 hcls _
    have e7 : J 74 7 = nI cl := (hf.2 7 (by decide) (by decide) (by decide)).trans h7
    have hrJ := rRb_ft hN6 hr hf
    by_cases zc : 60 ≤ cl
    · skip
      refine zJ_aload_n dX13_clause_22 rfl ?_
      refine zP_geti lf_X13_163 (zSt_ob hs 74 13 rfl) rfl dX13_clause_23 ?_
      rw [e7, show cl = 60 by omega]
      refine zJ_bipush (v := nI 60) dX13_clause_26 rfl ?_
      refine zJ_icmp_eq 47 dX13_clause_28 (by decide) (fun _ => ?_) (fun c28 => absurd rfl c28)
      exact h47
    · obtain ⟨k3, n6⟩ : k = 3 ∧ 6 ≤ rN r := zm.elim (fun q => absurd q zc) id
      refine zJ_aload_n dX13_clause_22 rfl ?_
      refine zP_geti lf_X13_163 (zSt_ob hs 74 13 rfl) rfl dX13_clause_23 ?_
      rw [e7]
      refine zJ_bipush (v := nI 60) dX13_clause_26 rfl ?_
      refine zJ_icmp_eq 47 dX13_clause_28 (by decide) (fun c28 => absurd c28 (fun q => zc (by have := (nI_eq (by omega) (by omega)).mp q; omega))) (fun _ => ?_)
      refine zJ_iload_n dX13_clause_31 rfl ?_
      refine zJ_iconst (v := nI 3) dX13_clause_32 rfl ?_
      refine zJ_icmp_ne 56 dX13_clause_33 (by decide) (fun c33 => absurd (by rw [k3]) c33) (fun _ => ?_)
      refine zJ_aload_n dX13_clause_36 rfl ?_
      refine zP_getr lf_X13_20 (zSt_ob hs 74 13 rfl) rfl (zSt_rf hs 74 11 77 rfl) dX13_clause_37 ?_
      refine zJ_iconst (v := nI 2) dX13_clause_40 rfl ?_
      refine zP_iald (zSt_ar hs 77 4 rfl) (by first | assumption | with_reducible exact vp_in_nI (by omega) (by omega) | (simp (disch := omega) only [nI_add, pk_mul, pk_sub, pk_div, pk_rem, nI_clamp]; with_reducible exact vp_in_nI (by omega) (by omega))) dX13_clause_41 ?_
      rw [nI_clamp (by omega), hrJ.1.2.2.1, show rN r = 6 by omega]
      refine zJ_bipush (v := nI 6) dX13_clause_42 rfl ?_
      refine zJ_icmp_ne 56 dX13_clause_44 (by decide) (fun c44 => absurd rfl c44) (fun _ => ?_)
      exact h47
  rw [if_neg zm] at hcls
  have hc60 : cl < 60 := Nat.lt_of_not_le (fun q => zm (Or.inl q))
  -- a sign ends it
  have h264 : ∀ (J : zI) (r1 : PR zRb), k ≠ 3 → fcl I J → rP J bs L r1 (fun r' => rRb J r' ∧ rbOk r' ∧ J 74 7 = nI (cl + 1)) → pBody bs L k r W = r1 → zJ l Xi mX13_clause d 0 0 264 [some (.ref 74), some (.int (nI k)), none, none] [] (J, g) Q := by
    intro J r1 hk3 hf hp he
    rw [hQ, hcls, he]
    refine zJ_aload_n dX13_clause_264 rfl ?_
    refine zJ_bipush (v := nI 59) dX13_clause_265 rfl ?_
    refine zP_ecallVv [_] _ lv_X13_176 (m_signP (d := d - 1) hl (by omega) hs hp (by omega)) (zSt_ob hs 74 13 rfl) rfl (by omega) (Nat.le_of_ble_eq_true rfl) rfl dX13_clause_267 (fun J2 h2 => ?_)
    refine zJ_aload_n dX13_clause_270 rfl ?_
    refine zP_getr lf_X13_20 (zSt_ob hs 74 13 rfl) rfl (zSt_rf hs 74 11 77 rfl) dX13_clause_271 ?_
    refine zJ_iconst (v := nI 2) dX13_clause_274 rfl ?_
    refine zJ_dup2 dX13_clause_275 rfl rfl ?_
    refine zP_iald (zSt_ar hs 77 4 rfl) (by first | assumption | with_reducible exact vp_in_nI (by omega) (by omega) | (simp (disch := omega) only [nI_add, pk_mul, pk_sub, pk_div, pk_rem, nI_clamp]; with_reducible exact vp_in_nI (by omega) (by omega))) dX13_clause_276 ?_
    refine zJ_aload_n dX13_clause_277 rfl ?_
    refine zP_geti lf_X13_123 (zSt_ob hs 74 13 rfl) rfl dX13_clause_278 ?_
    refine zJ_if_ne 293 dX13_clause_281 (by decide) (fun c281 => ?_) (fun c281 => ?_)
    · skip
      refine zJ_iconst (v := nI 0) dX13_clause_293 rfl ?_
      refine zJ_iadd dX13_clause_294 ?_
      refine zP_iast (zSt_ar hs 77 4 rfl) (by first | assumption | with_reducible exact vp_in_nI (by omega) (by omega) | (simp (disch := omega) only [nI_add, pk_mul, pk_sub, pk_div, pk_rem, nI_clamp]; with_reducible exact vp_in_nI (by omega) (by omega))) dX13_clause_295 ?_
      refine zJ_vret rfl dX13_clause_296 ?_
      have e0 : J2 77 2 + nI 0 = J2 77 2 := Int32.add_zero _
      rw [nI_clamp (n := 2) (by omega), e0, zup_id]
      exact ⟨rfl, J2, rfl, fcl_trans hf (fcl_ft h2.1), rP_imp h2.2 (fun x hx => ⟨rRb_ft hx.2.1.1.2.2.2.2.1 hx.1 h2.1, hx.2.1, (h2.1.2 7 (by decide) (by decide) (by decide)).trans hx.2.2⟩)⟩
    · skip
      refine zJ_iload_n dX13_clause_284 rfl ?_
      refine zJ_iconst (v := nI 3) dX13_clause_285 rfl ?_
      refine zJ_icmp_ne 293 dX13_clause_286 (by decide) (fun _ => ?_) (fun c286 => absurd c286 (fun q => hk3 ((nI_eq (by omega) (by omega)).mp q)))
      refine zJ_iconst (v := nI 0) dX13_clause_293 rfl ?_
      refine zJ_iadd dX13_clause_294 ?_
      refine zP_iast (zSt_ar hs 77 4 rfl) (by first | assumption | with_reducible exact vp_in_nI (by omega) (by omega) | (simp (disch := omega) only [nI_add, pk_mul, pk_sub, pk_div, pk_rem, nI_clamp]; with_reducible exact vp_in_nI (by omega) (by omega))) dX13_clause_295 ?_
      refine zJ_vret rfl dX13_clause_296 ?_
      have e0 : J2 77 2 + nI 0 = J2 77 2 := Int32.add_zero _
      rw [nI_clamp (n := 2) (by omega), e0, zup_id]
      exact ⟨rfl, J2, rfl, fcl_trans hf (fcl_ft h2.1), rP_imp h2.2 (fun x hx => ⟨rRb_ft hx.2.1.1.2.2.2.2.1 hx.1 h2.1, hx.2.1, (h2.1.2 7 (by decide) (by decide) (by decide)).trans hx.2.2⟩)⟩
  have go : ∀ (J : zI), fcl I J → rz J bs L W none → rRb J r → J 74 7 = nI (cl + 1) → zJ l Xi mX13_clause d 0 0 78 [some (.ref 74), some (.int (nI k)), none, none] [] (J, g) Q := by
    intro J hf hz hrJ h7J
    have hp0 : rP J bs L (.inr ((), W)) (fun _ => True) := rP_mk hz trivial
    have hkk : k = 0 ∨ k = 1 ∨ k = 2 ∨ k = 3 ∨ k = 4 ∨ k = 5 := by omega
    rcases hkk with k0 | k0 | k0 | k0 | k0 | k0
    · have hB : pBody bs L k r W = pbind (pbind (pbind (.inr ((), W) : PR Unit) fun x A => pbind (pNum bs L 2 9 A) fun y A => .inr ((x, y), A)) fun x A => pbind (pNum bs L 2 9 A) fun y A => .inr ((x, y), A)) fun q A => .inr (((q.1.2, q.2, rN r, rG r), r.2), A) := by
        rw [k0]; simp only [pBody, pbind_assoc, pbind_inr]; rfl
      refine zJ_iload_n dX13_clause_78 rfl ?_
      refine zJ_iconst (v := nI 4) dX13_clause_79 rfl ?_
      refine zJ_icmp_ne 88 dX13_clause_80 (by decide) (fun _ => ?_) (fun c80 => absurd c80 (by rw [k0]; decide))
      refine zJ_iload_n dX13_clause_88 rfl ?_
      refine zJ_if_ne 118 dX13_clause_89 (by decide) (fun c89 => absurd (by rw [k0]; rfl) c89) (fun _ => ?_)
      refine zJ_aload_n dX13_clause_92 rfl ?_
      refine zP_getr lf_X13_20 (zSt_ob hs 74 13 rfl) rfl (zSt_rf hs 74 11 77 rfl) dX13_clause_93 ?_
      refine zJ_iconst (v := nI 0) dX13_clause_96 rfl ?_
      refine zJ_aload_n dX13_clause_97 rfl ?_
      refine zJ_iconst (v := nI 2) dX13_clause_98 rfl ?_
      refine zJ_bipush (v := nI 8) dX13_clause_99 rfl ?_
      refine zP_ecallVi [_, _] _ lv_X13_169 (m_numP (lo := 2) (hi := 9) (d := d - 1) hl (by omega) hs hp0 (by omega) (by omega) rfl (show nI 8 = nI 9 - nI 1 by decide)) (zSt_ob hs 74 13 rfl) rfl (by omega) (Nat.le_of_ble_eq_true rfl) rfl dX13_clause_101 (fun x1 J1 hx1 => ?_)
      refine zP_iast (zSt_ar hs 77 4 rfl) (by first | assumption | with_reducible exact vp_in_nI (by omega) (by omega) | (simp (disch := omega) only [nI_add, pk_mul, pk_sub, pk_div, pk_rem, nI_clamp]; with_reducible exact vp_in_nI (by omega) (by omega))) dX13_clause_104 ?_
      refine zJ_aload_n dX13_clause_105 rfl ?_
      refine zP_getr lf_X13_20 (zSt_ob hs 74 13 rfl) rfl (zSt_rf hs 74 11 77 rfl) dX13_clause_106 ?_
      refine zJ_iconst (v := nI 1) dX13_clause_109 rfl ?_
      refine zJ_aload_n dX13_clause_110 rfl ?_
      refine zJ_iconst (v := nI 2) dX13_clause_111 rfl ?_
      refine zJ_bipush (v := nI 8) dX13_clause_112 rfl ?_
      refine zP_ecallVi [_, _] _ lv_X13_169 (m_numP (lo := 2) (hi := 9) (d := d - 1) hl (by omega) hs (rP_zup hx1.2 (by decide) (by decide)) (by omega) (by omega) rfl (show nI 8 = nI 9 - nI 1 by decide)) (zSt_ob hs 74 13 rfl) rfl (by omega) (Nat.le_of_ble_eq_true rfl) rfl dX13_clause_114 (fun x2 J2 hx2 => ?_)
      refine zP_iast (zSt_ar hs 77 4 rfl) (by first | assumption | with_reducible exact vp_in_nI (by omega) (by omega) | (simp (disch := omega) only [nI_add, pk_mul, pk_sub, pk_div, pk_rem, nI_clamp]; with_reducible exact vp_in_nI (by omega) (by omega))) dX13_clause_117 ?_
      refine zJ_iload_n dX13_clause_118 rfl ?_
      refine zJ_iconst (v := nI 1) dX13_clause_119 rfl ?_
      refine zJ_icmp_eq 128 dX13_clause_120 (by decide) (fun c120 => absurd c120 (by rw [k0]; decide)) (fun _ => ?_)
      refine zJ_iload_n dX13_clause_123 rfl ?_
      refine zJ_iconst (v := nI 2) dX13_clause_124 rfl ?_
      refine zJ_icmp_ne 187 dX13_clause_125 (by decide) (fun _ => ?_) (fun c125 => absurd c125 (by rw [k0]; decide))
      refine zJ_iload_n dX13_clause_187 rfl ?_
      refine zJ_iconst (v := nI 3) dX13_clause_188 rfl ?_
      refine zJ_icmp_ne 246 dX13_clause_189 (by decide) (fun _ => ?_) (fun c189 => absurd c189 (by rw [k0]; decide))
      refine zJ_iload_n dX13_clause_246 rfl ?_
      refine zJ_iconst (v := nI 5) dX13_clause_247 rfl ?_
      refine zJ_icmp_ne 264 dX13_clause_248 (by decide) (fun _ => ?_) (fun c248 => absurd c248 (by rw [k0]; decide))
      simp only [nI_clamp (show 0 < 2 ^ 31 by omega), nI_clamp (show 1 < 2 ^ 31 by omega)] at hx2 ⊢
      obtain ⟨f1, p1⟩ := hx1
      obtain ⟨f2, p2⟩ := hx2
      obtain ⟨K, hK⟩ : ∃ K, zup J2 77 1 x2 = K := ⟨_, rfl⟩
      rw [hK]
      have eK : ∀ a, a ≠ 74 → a ≠ 77 → K a = J a := fun a q1 q2 => by rw [← hK, zup_row q2, f2.1 a q1, zup_row q2, f1.1 a q1]
      have e77 : ∀ j, K 77 j = if j = 1 then x2 else if j = 0 then x1 else J 77 j := fun j => by
        rw [← hK, zup_same]
        by_cases z : j = 1
        · rw [z, upd_at, if_pos rfl]
        · rw [upd_ne z, if_neg z, f2.1 77 (by decide), zup_same]
          by_cases z2 : j = 0
          · rw [z2, upd_at, if_pos rfl]
          · rw [upd_ne z2, if_neg z2, f1.1 77 (by decide)]
      have e747 : K 74 7 = nI (cl + 1) := by rw [← hK, zup_row (by decide), f2.2 7 (by decide) (by decide) (by decide), zup_row (by decide), f1.2 7 (by decide) (by decide) (by decide)]; exact h7J
      refine zJ_back (zle_r (zle_r (zle_n (zle_n zle_0)))) rfl (h264 K _ (by omega) (by rw [← hK]; exact fcl_zup (fcl_trans (fcl_zup (fcl_trans hf (fcl_ft f1)) (by decide)) (fcl_ft f2)) (by decide)) (rP_map (α := (Unit × Nat) × Nat) (β := zRb) (fun q => ((q.1.2, q.2, rN r, rG r), r.2)) (by rw [← hK]; exact rP_zup p2 (by decide) (by decide)) rfl (fun q hq => ?_)) hB)
      obtain ⟨⟨-, a1, a2, a3⟩, a4, a5, a6⟩ := hq
      refine ⟨rRb_told hrJ hN6 K eK (by rw [e77 0]; exact a1) (by rw [e77 1]; exact a4) (by rw [e77 2]; exact hrJ.1.2.2.1) (by rw [e77 3]; exact hrJ.1.2.2.2), ⟨⟨a2, by show q.1.2 ≤ 8; omega, a5, by show q.2 ≤ 8; omega, hok.1.2.2.2.2⟩, hok.2⟩, e747⟩
    · have hB : pBody bs L k r W = pbind (pbind (.inr ((), W) : PR Unit) fun x A => pbind (pPlace bs L A) fun y A => .inr ((x, y), A)) fun q A => .inr ((r.1, rcr r, rlm r, rpc r, rpn r, rwd r, un (rwl r) q.2 true), A) := by
        rw [k0]; simp only [pBody, pbind_assoc, pbind_inr]; rfl
      refine zJ_iload_n dX13_clause_78 rfl ?_
      refine zJ_iconst (v := nI 4) dX13_clause_79 rfl ?_
      refine zJ_icmp_ne 88 dX13_clause_80 (by decide) (fun _ => ?_) (fun c80 => absurd c80 (by rw [k0]; decide))
      refine zJ_iload_n dX13_clause_88 rfl ?_
      refine zJ_if_ne 118 dX13_clause_89 (by decide) (fun _ => ?_) (fun c89 => absurd c89 (by rw [k0]; decide))
      refine zJ_iload_n dX13_clause_118 rfl ?_
      refine zJ_iconst (v := nI 1) dX13_clause_119 rfl ?_
      refine zJ_icmp_eq 128 dX13_clause_120 (by decide) (fun _ => ?_) (fun c120 => absurd (by rw [k0]) c120)
      refine zJ_aload_n dX13_clause_128 rfl ?_
      refine zP_ecallVi [] _ lv_X13_173 (m_placeTold (d := d - 1) hl (by omega) hs hp0) (zSt_ob hs 74 13 rfl) rfl (by omega) (Nat.le_of_ble_eq_true rfl) rfl dX13_clause_129 (fun x J1 hx => ?_)
      refine zJ_istore_m 2 dX13_clause_132 rfl (Nat.le_of_ble_eq_true rfl) (by decide) ?_
      refine zJ_iload_n dX13_clause_133 rfl ?_
      refine zJ_iconst (v := nI 1) dX13_clause_134 rfl ?_
      refine zJ_icmp_ne 142 dX13_clause_135 (by decide) (fun c135 => absurd (by rw [k0]) c135) (fun _ => ?_)
      refine zJ_iconst (v := nI 1) dX13_clause_138 rfl ?_
      refine zJ_goto 148 dX13_clause_139 (by decide) ?_
      refine zJ_istore_m 3 dX13_clause_148 rfl (Nat.le_of_ble_eq_true rfl) (by decide) ?_
      obtain ⟨f1, p1⟩ := hx
      obtain ⟨R, hR⟩ : ∃ R, (pbind (.inr ((), W) : PR Unit) fun x A => pbind (pPlace bs L A) fun y A => (.inr ((x, y), A) : PR (Unit × Nat))) = R := ⟨_, rfl⟩
      rw [hR] at p1 hB
      have e747 : J1 74 7 = nI (cl + 1) := (f1.2 7 (by decide) (by decide) (by decide)).trans h7J
      cases R with
      | inl q =>
        refine zJ_aload_n dX13_clause_149 rfl ?_
        refine zP_geti lf_X13_123 (zSt_ob hs 74 13 rfl) rfl dX13_clause_150 ?_
        refine zJ_if_ne 168 dX13_clause_153 (by decide) (fun _ => ?_) (fun c153 => absurd c153 (rP_isE (q := q) p1))
        refine zJ_aload_n dX13_clause_168 rfl ?_
        refine zP_geti lf_X13_123 (zSt_ob hs 74 13 rfl) rfl dX13_clause_169 ?_
        refine zJ_if_ne 187 dX13_clause_172 (by decide) (fun _ => ?_) (fun c172 => absurd c172 (rP_isE (q := q) p1))
        refine zJ_iload_n dX13_clause_187 rfl ?_
        refine zJ_iconst (v := nI 3) dX13_clause_188 rfl ?_
        refine zJ_icmp_ne 246 dX13_clause_189 (by decide) (fun _ => ?_) (fun c189 => absurd c189 (by rw [k0]; decide))
        refine zJ_iload_n dX13_clause_246 rfl ?_
        refine zJ_iconst (v := nI 5) dX13_clause_247 rfl ?_
        refine zJ_icmp_ne 264 dX13_clause_248 (by decide) (fun _ => ?_) (fun c248 => absurd c248 (by rw [k0]; decide))
        exact zJ_back (zle_r (zle_r (zle_n (zle_n zle_0)))) rfl (h264 J1 (.inl q) (by omega) (fcl_trans hf (fcl_ft f1)) (rP_chg (q := q) p1) hB)
      | inr q =>
        obtain ⟨hz1, -, hx, hq⟩ := rP_ok (a := q.2) (x := q.1) p1
        subst hx
        refine zJ_aload_n dX13_clause_149 rfl ?_
        refine zP_geti lf_X13_123 (zSt_ob hs 74 13 rfl) rfl dX13_clause_150 ?_
        refine zJ_if_ne 168 dX13_clause_153 (by decide) (fun c153 => absurd (rP_isO p1) c153) (fun _ => ?_)
        refine zJ_iload_n dX13_clause_156 rfl ?_
        refine zJ_iconst (v := nI 1) dX13_clause_157 rfl ?_
        refine zJ_icmp_ne 168 dX13_clause_158 (by decide) (fun c158 => absurd (by rw [k0]) c158) (fun _ => ?_)
        refine zJ_aload_n dX13_clause_161 rfl ?_
        refine zP_getr lf_X13_26 (zSt_ob hs 74 13 rfl) rfl (zSt_rf hs 74 13 79 rfl) dX13_clause_162 ?_
        refine zJ_iload_n dX13_clause_165 rfl ?_
        refine zJ_iconst (v := nI 1) dX13_clause_166 rfl ?_
        refine zP_iast (zSt_ar hs 79 64 rfl) (by first | assumption | with_reducible exact vp_in_nI (by omega) (by omega) | (simp (disch := omega) only [nI_add, pk_mul, pk_sub, pk_div, pk_rem, nI_clamp]; with_reducible exact vp_in_nI (by omega) (by omega))) dX13_clause_167 ?_
        refine zJ_aload_n dX13_clause_168 rfl ?_
        refine zP_geti lf_X13_123 (zSt_ob hs 74 13 rfl) rfl dX13_clause_169 ?_
        rw [zup_row (by decide)]
        refine zJ_if_ne 187 dX13_clause_172 (by decide) (fun c172 => absurd (rP_isO p1) c172) (fun _ => ?_)
        refine zJ_iload_n dX13_clause_175 rfl ?_
        refine zJ_iconst (v := nI 2) dX13_clause_176 rfl ?_
        refine zJ_icmp_ne 187 dX13_clause_177 (by decide) (fun _ => ?_) (fun c177 => absurd c177 (by rw [k0]; decide))
        refine zJ_iload_n dX13_clause_187 rfl ?_
        refine zJ_iconst (v := nI 3) dX13_clause_188 rfl ?_
        refine zJ_icmp_ne 246 dX13_clause_189 (by decide) (fun _ => ?_) (fun c189 => absurd c189 (by rw [k0]; decide))
        refine zJ_iload_n dX13_clause_246 rfl ?_
        refine zJ_iconst (v := nI 5) dX13_clause_247 rfl ?_
        refine zJ_icmp_ne 264 dX13_clause_248 (by decide) (fun _ => ?_) (fun c248 => absurd c248 (by rw [k0]; decide))
        rw [nI_clamp (by omega)]
        exact zJ_back (zle_r (zle_r (zle_n (zle_n zle_0)))) rfl (h264 _ _ (by omega) (fcl_zup (fcl_trans hf (fcl_ft f1)) (by decide)) (rP_mk (rz_of hz1 (fun j _ => by rw [zup_row (by decide)]) (zup_row (by decide))) ⟨rRb_wl (rRb_ft hN6 hrJ f1) hN6, hok, by rw [zup_row (by decide)]; exact e747⟩) hB)
    · have hB : pBody bs L k r W = pbind (pbind (pbind (.inr ((), W) : PR Unit) fun x A => pbind (pPlace bs L A) fun y A => .inr ((x, y), A)) fun x A => pbind (pNum bs L 1 4 A) fun y A => .inr ((x, y), A)) fun q A => .inr ((r.1, rcr r, rlm r, rpc r, rpn r, un (rwd r) q.1.2 q.2, rwl r), A) := by
        rw [k0]; simp only [pBody, pbind_assoc, pbind_inr]; rfl
      refine zJ_iload_n dX13_clause_78 rfl ?_
      refine zJ_iconst (v := nI 4) dX13_clause_79 rfl ?_
      refine zJ_icmp_ne 88 dX13_clause_80 (by decide) (fun _ => ?_) (fun c80 => absurd c80 (by rw [k0]; decide))
      refine zJ_iload_n dX13_clause_88 rfl ?_
      refine zJ_if_ne 118 dX13_clause_89 (by decide) (fun _ => ?_) (fun c89 => absurd c89 (by rw [k0]; decide))
      refine zJ_iload_n dX13_clause_118 rfl ?_
      refine zJ_iconst (v := nI 1) dX13_clause_119 rfl ?_
      refine zJ_icmp_eq 128 dX13_clause_120 (by decide) (fun c120 => absurd c120 (by rw [k0]; decide)) (fun _ => ?_)
      refine zJ_iload_n dX13_clause_123 rfl ?_
      refine zJ_iconst (v := nI 2) dX13_clause_124 rfl ?_
      refine zJ_icmp_ne 187 dX13_clause_125 (by decide) (fun c125 => absurd (by rw [k0]) c125) (fun _ => ?_)
      refine zJ_aload_n dX13_clause_128 rfl ?_
      refine zP_ecallVi [] _ lv_X13_173 (m_placeTold (d := d - 1) hl (by omega) hs hp0) (zSt_ob hs 74 13 rfl) rfl (by omega) (Nat.le_of_ble_eq_true rfl) rfl dX13_clause_129 (fun x J1 hx => ?_)
      refine zJ_istore_m 2 dX13_clause_132 rfl (Nat.le_of_ble_eq_true rfl) (by decide) ?_
      refine zJ_iload_n dX13_clause_133 rfl ?_
      refine zJ_iconst (v := nI 1) dX13_clause_134 rfl ?_
      refine zJ_icmp_ne 142 dX13_clause_135 (by decide) (fun _ => ?_) (fun c135 => absurd c135 (by rw [k0]; decide))
      refine zJ_aload_n dX13_clause_142 rfl ?_
      refine zJ_iconst (v := nI 1) dX13_clause_143 rfl ?_
      refine zJ_iconst (v := nI 3) dX13_clause_144 rfl ?_
      refine zP_ecallVi [_, _] _ lv_X13_169 (m_numP (lo := 1) (hi := 4) (d := d - 1) hl (by omega) hs hx.2 (by omega) (by omega) rfl (show nI 3 = nI 4 - nI 1 by decide)) (zSt_ob hs 74 13 rfl) rfl (by omega) (Nat.le_of_ble_eq_true rfl) rfl dX13_clause_145 (fun y J2 hy => ?_)
      refine zJ_istore_m 3 dX13_clause_148 rfl (Nat.le_of_ble_eq_true rfl) (by decide) ?_
      have f1 := ft_trans hx.1 hy.1
      have p1 := hy.2
      obtain ⟨R, hR⟩ : ∃ R, (pbind (pbind (.inr ((), W) : PR Unit) fun x A => pbind (pPlace bs L A) fun y A => (.inr ((x, y), A) : PR (Unit × Nat))) fun x A => pbind (pNum bs L 1 4 A) fun y A => (.inr ((x, y), A) : PR ((Unit × Nat) × Nat))) = R := ⟨_, rfl⟩
      rw [hR] at p1 hB
      have e747 : J2 74 7 = nI (cl + 1) := (f1.2 7 (by decide) (by decide) (by decide)).trans h7J
      cases R with
      | inl q =>
        refine zJ_aload_n dX13_clause_149 rfl ?_
        refine zP_geti lf_X13_123 (zSt_ob hs 74 13 rfl) rfl dX13_clause_150 ?_
        refine zJ_if_ne 168 dX13_clause_153 (by decide) (fun _ => ?_) (fun c153 => absurd c153 (rP_isE (q := q) p1))
        refine zJ_aload_n dX13_clause_168 rfl ?_
        refine zP_geti lf_X13_123 (zSt_ob hs 74 13 rfl) rfl dX13_clause_169 ?_
        refine zJ_if_ne 187 dX13_clause_172 (by decide) (fun _ => ?_) (fun c172 => absurd c172 (rP_isE (q := q) p1))
        refine zJ_iload_n dX13_clause_187 rfl ?_
        refine zJ_iconst (v := nI 3) dX13_clause_188 rfl ?_
        refine zJ_icmp_ne 246 dX13_clause_189 (by decide) (fun _ => ?_) (fun c189 => absurd c189 (by rw [k0]; decide))
        refine zJ_iload_n dX13_clause_246 rfl ?_
        refine zJ_iconst (v := nI 5) dX13_clause_247 rfl ?_
        refine zJ_icmp_ne 264 dX13_clause_248 (by decide) (fun _ => ?_) (fun c248 => absurd c248 (by rw [k0]; decide))
        exact zJ_back (zle_r (zle_r (zle_n (zle_n zle_0)))) rfl (h264 J2 (.inl q) (by omega) (fcl_trans hf (fcl_ft f1)) (rP_chg (q := q) p1) hB)
      | inr q =>
        obtain ⟨hz1, ⟨-, hx1, hq⟩, hy1, hv1, hv2⟩ := rP_ok (a := q.2) (x := q.1) p1
        rw [hx1, hy1]
        refine zJ_aload_n dX13_clause_149 rfl ?_
        refine zP_geti lf_X13_123 (zSt_ob hs 74 13 rfl) rfl dX13_clause_150 ?_
        refine zJ_if_ne 168 dX13_clause_153 (by decide) (fun c153 => absurd (rP_isO p1) c153) (fun _ => ?_)
        refine zJ_iload_n dX13_clause_156 rfl ?_
        refine zJ_iconst (v := nI 1) dX13_clause_157 rfl ?_
        refine zJ_icmp_ne 168 dX13_clause_158 (by decide) (fun _ => ?_) (fun c158 => absurd c158 (by rw [k0]; decide))
        refine zJ_aload_n dX13_clause_168 rfl ?_
        refine zP_geti lf_X13_123 (zSt_ob hs 74 13 rfl) rfl dX13_clause_169 ?_
        refine zJ_if_ne 187 dX13_clause_172 (by decide) (fun c172 => absurd (rP_isO p1) c172) (fun _ => ?_)
        refine zJ_iload_n dX13_clause_175 rfl ?_
        refine zJ_iconst (v := nI 2) dX13_clause_176 rfl ?_
        refine zJ_icmp_ne 187 dX13_clause_177 (by decide) (fun c177 => absurd (by rw [k0]) c177) (fun _ => ?_)
        refine zJ_aload_n dX13_clause_180 rfl ?_
        refine zP_getr lf_X13_29 (zSt_ob hs 74 13 rfl) rfl (zSt_rf hs 74 14 80 rfl) dX13_clause_181 ?_
        refine zJ_iload_n dX13_clause_184 rfl ?_
        refine zJ_iload_n dX13_clause_185 rfl ?_
        refine zP_iast (zSt_ar hs 80 64 rfl) (by first | assumption | with_reducible exact vp_in_nI (by omega) (by omega) | (simp (disch := omega) only [nI_add, pk_mul, pk_sub, pk_div, pk_rem, nI_clamp]; with_reducible exact vp_in_nI (by omega) (by omega))) dX13_clause_186 ?_
        refine zJ_iload_n dX13_clause_187 rfl ?_
        refine zJ_iconst (v := nI 3) dX13_clause_188 rfl ?_
        refine zJ_icmp_ne 246 dX13_clause_189 (by decide) (fun _ => ?_) (fun c189 => absurd c189 (by rw [k0]; decide))
        refine zJ_iload_n dX13_clause_246 rfl ?_
        refine zJ_iconst (v := nI 5) dX13_clause_247 rfl ?_
        refine zJ_icmp_ne 264 dX13_clause_248 (by decide) (fun _ => ?_) (fun c248 => absurd c248 (by rw [k0]; decide))
        rw [nI_clamp (by omega)]
        refine zJ_back (zle_r (zle_r (zle_n (zle_n zle_0)))) rfl (h264 _ _ (by omega) (fcl_zup (fcl_trans hf (fcl_ft f1)) (by decide)) (rP_mk (rz_of hz1 (fun j _ => by rw [zup_row (by decide)]) (zup_row (by decide))) ⟨rRb_wd (rRb_ft hN6 hrJ f1) hN6, ⟨hok.1, hok.2.1, hok.2.2.1, fun p hp => ?_, hok.2.2.2.2⟩, by rw [zup_row (by decide)]; exact e747⟩) hB)
        show 1 ≤ un (rwd r) q.1.1.2 q.1.2 p ∧ un (rwd r) q.1.1.2 q.1.2 p ≤ 3
        by_cases z : p = q.1.1.2
        · rw [z, un_at]; omega
        · rw [un_ne z]; exact hok.2.2.2.1 p hp
    · have hN5 : rN r < 6 := Nat.lt_of_not_le (fun q => zm (Or.inr ⟨k0, q⟩))
      have hB : (pbind (pBody bs L k r W) fun r A => pbind (pSign bs L 59 A) fun _ A => (.inr (r, A) : PR zRb)) = pbind (pbind (pbind (pbind (.inr ((), W) : PR Unit) fun x A => pbind (pNum bs L 0 10 A) fun y A => (.inr ((x, y), A) : PR (Unit × Nat))) fun x A => pbind (pNum bs L 0 61 A) fun y A => (.inr ((x, y), A) : PR ((Unit × Nat) × Nat))) fun x A => pbind (pSign bs L 59 A) fun _ A => (.inr (x, A) : PR ((Unit × Nat) × Nat))) fun q A => .inr (((rC r, rR r, rN r + 1, rG r), un (rcr r) (rN r) q.1.2, un (rlm r) (rN r) q.2, rpc r, rpn r, rwd r, rwl r), A) := by
        have h9 : pBody bs L 3 r W = pbind (pNum bs L 0 10 W) fun c A => pbind (pNum bs L 0 61 A) fun m A => .inr (((rC r, rR r, rN r + 1, rG r), un (rcr r) (rN r) c, un (rlm r) (rN r) m, rpc r, rpn r, rwd r, rwl r), A) := rfl
        rw [k0, h9]
        simp only [pbind_assoc, pbind_inr]
      rw [hQ, hcls, hB]
      refine zJ_iload_n dX13_clause_78 rfl ?_
      refine zJ_iconst (v := nI 4) dX13_clause_79 rfl ?_
      refine zJ_icmp_ne 88 dX13_clause_80 (by decide) (fun _ => ?_) (fun c80 => absurd c80 (by rw [k0]; decide))
      refine zJ_iload_n dX13_clause_88 rfl ?_
      refine zJ_if_ne 118 dX13_clause_89 (by decide) (fun _ => ?_) (fun c89 => absurd c89 (by rw [k0]; decide))
      refine zJ_iload_n dX13_clause_118 rfl ?_
      refine zJ_iconst (v := nI 1) dX13_clause_119 rfl ?_
      refine zJ_icmp_eq 128 dX13_clause_120 (by decide) (fun c120 => absurd c120 (by rw [k0]; decide)) (fun _ => ?_)
      refine zJ_iload_n dX13_clause_123 rfl ?_
      refine zJ_iconst (v := nI 2) dX13_clause_124 rfl ?_
      refine zJ_icmp_ne 187 dX13_clause_125 (by decide) (fun _ => ?_) (fun c125 => absurd c125 (by rw [k0]; decide))
      refine zJ_iload_n dX13_clause_187 rfl ?_
      refine zJ_iconst (v := nI 3) dX13_clause_188 rfl ?_
      refine zJ_icmp_ne 246 dX13_clause_189 (by decide) (fun c189 => absurd (by rw [k0]) c189) (fun _ => ?_)
      refine zJ_aload_n dX13_clause_192 rfl ?_
      refine zP_getr lf_X13_37 (zSt_ob hs 74 13 rfl) rfl (zSt_rf hs 74 16 82 rfl) dX13_clause_193 ?_
      refine zJ_aload_n dX13_clause_196 rfl ?_
      refine zP_getr lf_X13_20 (zSt_ob hs 74 13 rfl) rfl (zSt_rf hs 74 11 77 rfl) dX13_clause_197 ?_
      refine zJ_iconst (v := nI 2) dX13_clause_200 rfl ?_
      refine zP_iald (zSt_ar hs 77 4 rfl) (by first | assumption | with_reducible exact vp_in_nI (by omega) (by omega) | (simp (disch := omega) only [nI_add, pk_mul, pk_sub, pk_div, pk_rem, nI_clamp]; with_reducible exact vp_in_nI (by omega) (by omega))) dX13_clause_201 ?_
      rw [nI_clamp (by omega), hrJ.1.2.2.1]
      refine zP_rowK (k := (rN r)) (zSt_g82 hs) (by omega) (by decide) dX13_clause_202 ?_
      refine zJ_iconst (v := nI 0) dX13_clause_203 rfl ?_
      refine zJ_aload_n dX13_clause_204 rfl ?_
      refine zJ_iconst (v := nI 0) dX13_clause_205 rfl ?_
      refine zJ_bipush (v := nI 9) dX13_clause_206 rfl ?_
      refine zP_ecallVi [_, _] _ lv_X13_169 (m_numP (lo := 0) (hi := 10) (d := d - 1) hl (by omega) hs hp0 (by omega) (by omega) rfl (show nI 9 = nI 10 - nI 1 by decide)) (zSt_ob hs 74 13 rfl) rfl (by omega) (Nat.le_of_ble_eq_true rfl) rfl dX13_clause_208 (fun x1 J1 hx1 => ?_)
      refine zP_iast (zGr_ar (zSt_g82 hs) (i := (rN r)) (by omega)) (by first | assumption | with_reducible exact vp_in_nI (by omega) (by omega) | (simp (disch := omega) only [nI_add, pk_mul, pk_sub, pk_div, pk_rem, nI_clamp]; with_reducible exact vp_in_nI (by omega) (by omega))) dX13_clause_211 ?_
      refine zJ_aload_n dX13_clause_212 rfl ?_
      refine zP_getr lf_X13_37 (zSt_ob hs 74 13 rfl) rfl (zSt_rf hs 74 16 82 rfl) dX13_clause_213 ?_
      refine zJ_aload_n dX13_clause_216 rfl ?_
      refine zP_getr lf_X13_20 (zSt_ob hs 74 13 rfl) rfl (zSt_rf hs 74 11 77 rfl) dX13_clause_217 ?_
      refine zJ_iconst (v := nI 2) dX13_clause_220 rfl ?_
      refine zP_iald (zSt_ar hs 77 4 rfl) (by first | assumption | with_reducible exact vp_in_nI (by omega) (by omega) | (simp (disch := omega) only [nI_add, pk_mul, pk_sub, pk_div, pk_rem, nI_clamp]; with_reducible exact vp_in_nI (by omega) (by omega))) dX13_clause_221 ?_
      rw [nI_clamp (by omega), nI_clamp (by omega), zup_row (by omega), hx1.1.1 77 (by decide), hrJ.1.2.2.1]
      refine zP_rowK (k := (rN r)) (zSt_g82 hs) (by omega) (by decide) dX13_clause_222 ?_
      refine zJ_iconst (v := nI 1) dX13_clause_223 rfl ?_
      refine zJ_aload_n dX13_clause_224 rfl ?_
      refine zJ_iconst (v := nI 0) dX13_clause_225 rfl ?_
      refine zJ_bipush (v := nI 60) dX13_clause_226 rfl ?_
      refine zP_ecallVi [_, _] _ lv_X13_169 (m_numP (lo := 0) (hi := 61) (d := d - 1) hl (by omega) hs (rP_zup hx1.2 (by omega) (by omega)) (by omega) (by omega) rfl (show nI 60 = nI 61 - nI 1 by decide)) (zSt_ob hs 74 13 rfl) rfl (by omega) (Nat.le_of_ble_eq_true rfl) rfl dX13_clause_228 (fun x2 J2 hx2 => ?_)
      refine zP_iast (zGr_ar (zSt_g82 hs) (i := (rN r)) (by omega)) (by first | assumption | with_reducible exact vp_in_nI (by omega) (by omega) | (simp (disch := omega) only [nI_add, pk_mul, pk_sub, pk_div, pk_rem, nI_clamp]; with_reducible exact vp_in_nI (by omega) (by omega))) dX13_clause_231 ?_
      refine zJ_aload_n dX13_clause_232 rfl ?_
      refine zP_getr lf_X13_37 (zSt_ob hs 74 13 rfl) rfl (zSt_rf hs 74 16 82 rfl) dX13_clause_233 ?_
      refine zJ_aload_n dX13_clause_236 rfl ?_
      refine zP_getr lf_X13_20 (zSt_ob hs 74 13 rfl) rfl (zSt_rf hs 74 11 77 rfl) dX13_clause_237 ?_
      refine zJ_iconst (v := nI 2) dX13_clause_240 rfl ?_
      refine zP_iald (zSt_ar hs 77 4 rfl) (by first | assumption | with_reducible exact vp_in_nI (by omega) (by omega) | (simp (disch := omega) only [nI_add, pk_mul, pk_sub, pk_div, pk_rem, nI_clamp]; with_reducible exact vp_in_nI (by omega) (by omega))) dX13_clause_241 ?_
      rw [nI_clamp (by omega), nI_clamp (by omega), zup_row (by omega), hx2.1.1 77 (by decide), zup_row (by omega), hx1.1.1 77 (by decide), hrJ.1.2.2.1]
      refine zP_rowK (k := (rN r)) (zSt_g82 hs) (by omega) (by decide) dX13_clause_242 ?_
      refine zJ_iconst (v := nI 2) dX13_clause_243 rfl ?_
      refine zJ_iconst (v := nI 0) dX13_clause_244 rfl ?_
      refine zP_iast (zGr_ar (zSt_g82 hs) (i := (rN r)) (by omega)) (by first | assumption | with_reducible exact vp_in_nI (by omega) (by omega) | (simp (disch := omega) only [nI_add, pk_mul, pk_sub, pk_div, pk_rem, nI_clamp]; with_reducible exact vp_in_nI (by omega) (by omega))) dX13_clause_245 ?_
      refine zJ_iload_n dX13_clause_246 rfl ?_
      refine zJ_iconst (v := nI 5) dX13_clause_247 rfl ?_
      refine zJ_icmp_ne 264 dX13_clause_248 (by decide) (fun _ => ?_) (fun c248 => absurd c248 (by rw [k0]; decide))
      simp only [nI_clamp (show 0 < 2 ^ 31 by omega), nI_clamp (show 1 < 2 ^ 31 by omega), nI_clamp (show 2 < 2 ^ 31 by omega)] at hx2 ⊢
      obtain ⟨f1, p1⟩ := hx1
      obtain ⟨f2, p2⟩ := hx2
      obtain ⟨K, hK⟩ : ∃ K, zup (zup J2 (82 + 1 + rN r) 1 x2) (82 + 1 + rN r) 2 (nI 0) = K := ⟨_, rfl⟩
      rw [hK]
      have eK : ∀ a, a ≠ 74 → a ≠ 82 + 1 + rN r → K a = J a := fun a q1 q2 => by rw [← hK, zup_row q2, zup_row q2, f2.1 a q1, zup_row q2, f1.1 a q1]
      have eN : ∀ j, K (82 + 1 + rN r) j = if j = 2 then nI 0 else if j = 1 then x2 else if j = 0 then x1 else J (82 + 1 + rN r) j := fun j => by
        rw [← hK, zup_same]
        by_cases z : j = 2
        · rw [z, upd_at, if_pos rfl]
        · rw [upd_ne z, if_neg z, zup_same]
          by_cases z1 : j = 1
          · rw [z1, upd_at, if_pos rfl]
          · rw [upd_ne z1, if_neg z1, f2.1 _ (by omega), zup_same]
            by_cases z2 : j = 0
            · rw [z2, upd_at, if_pos rfl]
            · rw [upd_ne z2, if_neg z2, f1.1 _ (by omega)]
      have fK : ∀ j, j ≠ 4 → j ≠ 5 → j ≠ 6 → K 74 j = J 74 j := fun j q1 q2 q3 => by rw [← hK, zup_row (by omega), zup_row (by omega), f2.2 j q1 q2 q3, zup_row (by omega), f1.2 j q1 q2 q3]
      have hfK : fcl I K := by rw [← hK]; exact fcl_zup (fcl_zup (fcl_trans (fcl_zup (fcl_trans hf (fcl_ft f1)) (by omega)) (fcl_ft f2)) (by omega)) (by omega)
      have pK := rP_zup (a := 82 + 1 + rN r) (k := 2) (x := nI 0) (rP_zup (a := 82 + 1 + rN r) (k := 1) (x := x2) p2 (by omega) (by omega)) (by omega) (by omega)
      rw [hK] at pK
      refine zJ_aload_n dX13_clause_264 rfl ?_
      refine zJ_bipush (v := nI 59) dX13_clause_265 rfl ?_
      refine zP_ecallVv [_] _ lv_X13_176 (m_signP (d := d - 1) hl (by omega) hs pK (by omega)) (zSt_ob hs 74 13 rfl) rfl (by omega) (Nat.le_of_ble_eq_true rfl) rfl dX13_clause_267 (fun J3 h3 => ?_)
      obtain ⟨f3, p3⟩ := h3
      have hfJ : fcl I J3 := fcl_trans hfK (fcl_ft f3)
      have t2 : J3 77 2 = nI (rN r) := by rw [f3.1 77 (by decide), eK 77 (by decide) (by omega)]; exact hrJ.1.2.2.1
      obtain ⟨R, hR⟩ : ∃ R, (pbind (pbind (pbind (.inr ((), W) : PR Unit) fun x A => pbind (pNum bs L 0 10 A) fun y A => (.inr ((x, y), A) : PR (Unit × Nat))) fun x A => pbind (pNum bs L 0 61 A) fun y A => (.inr ((x, y), A) : PR ((Unit × Nat) × Nat))) fun x A => pbind (pSign bs L 59 A) fun _ A => (.inr (x, A) : PR ((Unit × Nat) × Nat))) = R := ⟨_, rfl⟩
      rw [hR] at p3 ⊢
      cases R with
      | inl q =>
        refine zJ_aload_n dX13_clause_270 rfl ?_
        refine zP_getr lf_X13_20 (zSt_ob hs 74 13 rfl) rfl (zSt_rf hs 74 11 77 rfl) dX13_clause_271 ?_
        refine zJ_iconst (v := nI 2) dX13_clause_274 rfl ?_
        refine zJ_dup2 dX13_clause_275 rfl rfl ?_
        refine zP_iald (zSt_ar hs 77 4 rfl) (by first | assumption | with_reducible exact vp_in_nI (by omega) (by omega) | (simp (disch := omega) only [nI_add, pk_mul, pk_sub, pk_div, pk_rem, nI_clamp]; with_reducible exact vp_in_nI (by omega) (by omega))) dX13_clause_276 ?_
        refine zJ_aload_n dX13_clause_277 rfl ?_
        refine zP_geti lf_X13_123 (zSt_ob hs 74 13 rfl) rfl dX13_clause_278 ?_
        refine zJ_if_ne 293 dX13_clause_281 (by decide) (fun _ => ?_) (fun c281 => absurd c281 (rP_isE (q := q) p3))
        refine zJ_iconst (v := nI 0) dX13_clause_293 rfl ?_
        refine zJ_iadd dX13_clause_294 ?_
        refine zP_iast (zSt_ar hs 77 4 rfl) (by first | assumption | with_reducible exact vp_in_nI (by omega) (by omega) | (simp (disch := omega) only [nI_add, pk_mul, pk_sub, pk_div, pk_rem, nI_clamp]; with_reducible exact vp_in_nI (by omega) (by omega))) dX13_clause_295 ?_
        refine zJ_vret rfl dX13_clause_296 ?_
        have e0 : J3 77 2 + nI 0 = J3 77 2 := Int32.add_zero _
        rw [nI_clamp (n := 2) (by omega), e0, zup_id]
        exact ⟨rfl, J3, rfl, hfJ, rP_chg (q := q) p3⟩
      | inr q =>
        obtain ⟨hz3, ⟨-, hy1, -, hy2⟩, hy3, -, hy4⟩ := rP_ok (a := q.2) (x := q.1) p3
        refine zJ_aload_n dX13_clause_270 rfl ?_
        refine zP_getr lf_X13_20 (zSt_ob hs 74 13 rfl) rfl (zSt_rf hs 74 11 77 rfl) dX13_clause_271 ?_
        refine zJ_iconst (v := nI 2) dX13_clause_274 rfl ?_
        refine zJ_dup2 dX13_clause_275 rfl rfl ?_
        refine zP_iald (zSt_ar hs 77 4 rfl) (by first | assumption | with_reducible exact vp_in_nI (by omega) (by omega) | (simp (disch := omega) only [nI_add, pk_mul, pk_sub, pk_div, pk_rem, nI_clamp]; with_reducible exact vp_in_nI (by omega) (by omega))) dX13_clause_276 ?_
        refine zJ_aload_n dX13_clause_277 rfl ?_
        refine zP_geti lf_X13_123 (zSt_ob hs 74 13 rfl) rfl dX13_clause_278 ?_
        refine zJ_if_ne 293 dX13_clause_281 (by decide) (fun c281 => absurd (rP_isO p3) c281) (fun _ => ?_)
        refine zJ_iload_n dX13_clause_284 rfl ?_
        refine zJ_iconst (v := nI 3) dX13_clause_285 rfl ?_
        refine zJ_icmp_ne 293 dX13_clause_286 (by decide) (fun c286 => absurd (by rw [k0]) c286) (fun _ => ?_)
        refine zJ_iconst (v := nI 1) dX13_clause_289 rfl ?_
        refine zJ_goto 294 dX13_clause_290 (by decide) ?_
        refine zJ_iadd dX13_clause_294 ?_
        refine zP_iast (zSt_ar hs 77 4 rfl) (by first | assumption | with_reducible exact vp_in_nI (by omega) (by omega) | (simp (disch := omega) only [nI_add, pk_mul, pk_sub, pk_div, pk_rem, nI_clamp]; with_reducible exact vp_in_nI (by omega) (by omega))) dX13_clause_295 ?_
        refine zJ_vret rfl dX13_clause_296 ?_
        rw [nI_clamp (n := 2) (by omega), t2, nI_add]
        refine ⟨rfl, _, rfl, fcl_zup hfJ (by decide), ?_⟩
        simp only [pbind]
        refine rP_mk (rz_of hz3 (fun j _ => by rw [zup_row (by decide)]) (zup_row (by decide))) ⟨⟨?_, fun n hn => ?_, fun n i hn hi => ?_, fun p hp => ?_, fun p hp => ?_⟩, ⟨⟨hok.1.1, hok.1.2.1, hok.1.2.2.1, hok.1.2.2.2.1, by show rN r + 1 ≤ 6; omega, hok.1.2.2.2.2.2⟩, fun n hn => ⟨(hok.2.1 n hn).1, fun z => (hok.2.1 n hn).2 (by have z2 : rN r + 1 ≤ n := z; omega)⟩, hok.2.2.1, hok.2.2.2.1, fun n hn => ?_⟩, ?_⟩
        · have e7 : ∀ j, zup J3 77 2 (nI (rN r + 1)) 77 j = if j = 2 then nI (rN r + 1) else J 77 j := fun j => by
            rw [zup_same]
            by_cases z : j = 2
            · rw [z, upd_at, if_pos rfl]
            · rw [upd_ne z, if_neg z, f3.1 77 (by decide), eK 77 (by decide) (by omega)]
          exact ⟨by rw [e7 0]; exact hrJ.1.1, by rw [e7 1]; exact hrJ.1.2.1, by rw [e7 2]; rfl, by rw [e7 3]; exact hrJ.1.2.2.2⟩
        · have hn2 : n < rN r + 1 := hn
          rw [zup_row (by omega), f3.1 _ (by omega)]
          show K (82 + 1 + n) 0 = nI (un (rcr r) (rN r) q.1.1.2 n) ∧ K (82 + 1 + n) 1 = nI (un (rlm r) (rN r) q.1.2 n) ∧ K (82 + 1 + n) 2 = nI (rpc r n)
          by_cases z : n = rN r
          · subst z
            rw [un_at, un_at, eN 0, eN 1, eN 2, (hok.2.1 (rN r) hN5).2 (Nat.le_refl _)]
            exact ⟨hy1, hy3, rfl⟩
          · rw [un_ne z, un_ne z, eK _ (by omega) (by omega)]
            exact hrJ.2.1 n (by omega)
        · have hn2 : n < rN r + 1 := hn
          have hi2 : i < rpc r n := hi
          rw [zup_row (by omega), f3.1 _ (by omega), eK _ (by omega) (by omega)]
          by_cases z : n = rN r
          · subst z
            rw [(hok.2.1 (rN r) hN5).2 (Nat.le_refl _)] at hi2; omega
          · exact hrJ.2.2.1 n i (by omega) hi2
        · rw [zup_row (by decide), f3.1 _ (by decide), eK _ (by decide) (by omega)]; exact hrJ.2.2.2.1 p hp
        · rw [zup_row (by decide), f3.1 _ (by decide), eK _ (by decide) (by omega)]; exact hrJ.2.2.2.2 p hp
        · have hn2 : n < rN r + 1 := hn
          show un (rcr r) (rN r) q.1.1.2 n ≤ 9 ∧ un (rlm r) (rN r) q.1.2 n ≤ 60
          by_cases z : n = rN r
          · rw [z, un_at, un_at]; omega
          · rw [un_ne z, un_ne z]; exact hok.2.2.2.2 n (by omega)
        · rw [zup_row (by decide), f3.2 7 (by decide) (by decide) (by decide), fK 7 (by decide) (by decide) (by decide)]; exact h7J
    · rw [hQ, hcls, k0]
      refine zJ_iload_n dX13_clause_78 rfl ?_
      refine zJ_iconst (v := nI 4) dX13_clause_79 rfl ?_
      refine zJ_icmp_ne 88 dX13_clause_80 (by decide) (fun c80 => absurd rfl c80) (fun _ => ?_)
      refine zJ_aload_n dX13_clause_83 rfl ?_
      refine zP_ecallVv [] _ lv_X13_183 (m_pinClause (d := d - 1) hl (by omega) hs hz hrJ hok) (zSt_ob hs 74 13 rfl) rfl (by omega) (Nat.le_of_ble_eq_true rfl) rfl dX13_clause_84 (fun J2 h2 => ?_)
      refine zJ_vret rfl dX13_clause_87 ?_
      exact ⟨rfl, J2, rfl, fcl_trans hf h2.1, rP_imp h2.2.2 (fun x hx => ⟨hx.1, hx.2, h2.2.1.trans h7J⟩)⟩
    · have hB : pBody bs L k r W = pbind (pbind (.inr ((), W) : PR Unit) fun x A => pbind (pNum bs L 0 10 A) fun y A => .inr ((x, y), A)) fun q A => .inr (((rC r, rR r, rN r, q.2), r.2), A) := by
        rw [k0]; simp only [pBody, pbind_assoc, pbind_inr]; rfl
      refine zJ_iload_n dX13_clause_78 rfl ?_
      refine zJ_iconst (v := nI 4) dX13_clause_79 rfl ?_
      refine zJ_icmp_ne 88 dX13_clause_80 (by decide) (fun _ => ?_) (fun c80 => absurd c80 (by rw [k0]; decide))
      refine zJ_iload_n dX13_clause_88 rfl ?_
      refine zJ_if_ne 118 dX13_clause_89 (by decide) (fun _ => ?_) (fun c89 => absurd c89 (by rw [k0]; decide))
      refine zJ_iload_n dX13_clause_118 rfl ?_
      refine zJ_iconst (v := nI 1) dX13_clause_119 rfl ?_
      refine zJ_icmp_eq 128 dX13_clause_120 (by decide) (fun c120 => absurd c120 (by rw [k0]; decide)) (fun _ => ?_)
      refine zJ_iload_n dX13_clause_123 rfl ?_
      refine zJ_iconst (v := nI 2) dX13_clause_124 rfl ?_
      refine zJ_icmp_ne 187 dX13_clause_125 (by decide) (fun _ => ?_) (fun c125 => absurd c125 (by rw [k0]; decide))
      refine zJ_iload_n dX13_clause_187 rfl ?_
      refine zJ_iconst (v := nI 3) dX13_clause_188 rfl ?_
      refine zJ_icmp_ne 246 dX13_clause_189 (by decide) (fun _ => ?_) (fun c189 => absurd c189 (by rw [k0]; decide))
      refine zJ_iload_n dX13_clause_246 rfl ?_
      refine zJ_iconst (v := nI 5) dX13_clause_247 rfl ?_
      refine zJ_icmp_ne 264 dX13_clause_248 (by decide) (fun c248 => absurd (by rw [k0]) c248) (fun _ => ?_)
      refine zJ_aload_n dX13_clause_251 rfl ?_
      refine zP_getr lf_X13_20 (zSt_ob hs 74 13 rfl) rfl (zSt_rf hs 74 11 77 rfl) dX13_clause_252 ?_
      refine zJ_iconst (v := nI 3) dX13_clause_255 rfl ?_
      refine zJ_aload_n dX13_clause_256 rfl ?_
      refine zJ_iconst (v := nI 0) dX13_clause_257 rfl ?_
      refine zJ_bipush (v := nI 9) dX13_clause_258 rfl ?_
      refine zP_ecallVi [_, _] _ lv_X13_169 (m_numP (lo := 0) (hi := 10) (d := d - 1) hl (by omega) hs hp0 (by omega) (by omega) rfl (show nI 9 = nI 10 - nI 1 by decide)) (zSt_ob hs 74 13 rfl) rfl (by omega) (Nat.le_of_ble_eq_true rfl) rfl dX13_clause_260 (fun x1 J1 hx1 => ?_)
      refine zP_iast (zSt_ar hs 77 4 rfl) (by first | assumption | with_reducible exact vp_in_nI (by omega) (by omega) | (simp (disch := omega) only [nI_add, pk_mul, pk_sub, pk_div, pk_rem, nI_clamp]; with_reducible exact vp_in_nI (by omega) (by omega))) dX13_clause_263 ?_
      simp only [nI_clamp (show 3 < 2 ^ 31 by omega)]
      obtain ⟨f1, p1⟩ := hx1
      refine zJ_back (zle_r (zle_r (zle_n (zle_n zle_0)))) rfl (h264 _ _ (by omega) (fcl_zup (fcl_trans hf (fcl_ft f1)) (by decide)) (rP_map (α := Unit × Nat) (β := zRb) (fun q => ((rC r, rR r, rN r, q.2), r.2)) (rP_zup p1 (by decide) (by decide)) rfl (fun q hq => ?_)) hB)
      obtain ⟨-, a1, a2, a3⟩ := hq
      have e77 : ∀ j, j ≠ 3 → zup J1 77 3 x1 77 j = J 77 j := fun j hj => by rw [zup_same, upd_ne hj, f1.1 77 (by decide)]
      exact ⟨rRb_told hrJ hN6 _ (fun a q1 q2 => by rw [zup_row q2, f1.1 a q1]) (by rw [e77 0 (by decide)]; exact hrJ.1.1) (by rw [e77 1 (by decide)]; exact hrJ.1.2.1) (by rw [e77 2 (by decide)]; exact hrJ.1.2.2.1) (by rw [zup_same, upd_at]; exact a1), ⟨⟨hok.1.1, hok.1.2.1, hok.1.2.2.1, hok.1.2.2.2.1, hN6, by show q.2 ≤ 9; omega⟩, hok.2⟩, by rw [zup_row (by decide), f1.2 7 (by decide) (by decide) (by decide)]; exact h7J⟩
  refine zJ_aload_n dX13_clause_0 rfl ?_
  refine zP_ecallVi [] _ lv_X13_180 (m_kindHere (d := d - 1) hl (by omega) hs h hF hW) (zSt_ob hs 74 13 rfl) rfl (by omega) (Nat.le_of_ble_eq_true rfl) rfl dX13_clause_1 (fun v J hJ => ?_)
  obtain ⟨rfl, hf, hz⟩ := hJ
  rw [hk, if_neg z6]
  refine zJ_istore_m 1 dX13_clause_4 rfl (Nat.le_of_ble_eq_true rfl) (by decide) ?_
  refine zJ_iload_n dX13_clause_5 rfl ?_
  refine zJ_iconst (v := -1) dX13_clause_6 rfl ?_
  refine zJ_icmp_ne 22 dX13_clause_7 (by decide) (fun _ => ?_) (fun c7 => absurd c7 (nI_ne1 (by omega)))
  have e7 : J 74 7 = nI cl := (hf.2 7 (by decide) (by decide) (by decide)).trans h7
  have hrJ := rRb_ft hN6 hr hf
  have h56 : zJ l Xi mX13_clause d 0 0 56 [some (.ref 74), some (.int (nI k)), none, none] [] (J, g) Q := by
    refine zJ_aload_n dX13_clause_56 rfl ?_
    refine zP_geti lf_X13_123 (zSt_ob hs 74 13 rfl) rfl dX13_clause_57 ?_
    rw [hz.2.2.2.2.1]
    refine zJ_if_eq 64 dX13_clause_60 (by decide) (fun _ => ?_) (fun c60 => absurd rfl c60)
    refine zJ_aload_n dX13_clause_64 rfl ?_
    refine zP_ecallVv [] _ lv_X13_160 (m_skipWord (d := d - 1) hl (by omega) hs hz) (zSt_ob hs 74 13 rfl) rfl (by omega) (Nat.le_of_ble_eq_true rfl) rfl dX13_clause_65 (fun J2 h2 => ?_)
    refine zJ_aload_n dX13_clause_68 rfl ?_
    refine zJ_dup dX13_clause_69 rfl ?_
    refine zP_geti lf_X13_163 (zSt_ob hs 74 13 rfl) rfl dX13_clause_70 ?_
    rw [h2.1.2 7 (by decide) (by decide) (by decide), e7]
    refine zJ_iconst (v := nI 1) dX13_clause_73 rfl ?_
    refine zJ_iadd dX13_clause_74 ?_
    rw [nI_add]
    refine zP_puti lf_X13_163 (zSt_ob hs 74 13 rfl) rfl dX13_clause_75 ?_
    obtain ⟨f2, z2⟩ := h2
    rw [hW] at z2
    refine go _ ?_ (rz_of z2 (fun j hj => by rw [zup_same, upd_ne (by omega)]) (zup_row (by decide))) (rRb_of hN6 (rRb_ft hN6 hrJ f2) (fun a ha => zup_row (by omega))) (by rw [zup_same, upd_at])
    have f3 := fcl_ft (ft_trans hf f2)
    exact ⟨fun a q1 q2 q3 q4 q5 q6 => by rw [zup_row q1]; exact f3.1 a q1 q2 q3 q4 q5 q6, fun j q1 q2 q3 q4 => by rw [zup_same, upd_ne q4]; exact f3.2 j q1 q2 q3 q4⟩
  by_cases k3 : k = 3
  · skip
    refine zJ_aload_n dX13_clause_22 rfl ?_
    refine zP_geti lf_X13_163 (zSt_ob hs 74 13 rfl) rfl dX13_clause_23 ?_
    rw [e7]
    refine zJ_bipush (v := nI 60) dX13_clause_26 rfl ?_
    refine zJ_icmp_eq 47 dX13_clause_28 (by decide) (fun c28 => absurd c28 (fun q => by have := (nI_eq (by omega) (by omega)).mp q; omega)) (fun _ => ?_)
    refine zJ_iload_n dX13_clause_31 rfl ?_
    refine zJ_iconst (v := nI 3) dX13_clause_32 rfl ?_
    refine zJ_icmp_ne 56 dX13_clause_33 (by decide) (fun c33 => absurd (by rw [k3]) c33) (fun _ => ?_)
    refine zJ_aload_n dX13_clause_36 rfl ?_
    refine zP_getr lf_X13_20 (zSt_ob hs 74 13 rfl) rfl (zSt_rf hs 74 11 77 rfl) dX13_clause_37 ?_
    refine zJ_iconst (v := nI 2) dX13_clause_40 rfl ?_
    refine zP_iald (zSt_ar hs 77 4 rfl) (by first | assumption | with_reducible exact vp_in_nI (by omega) (by omega) | (simp (disch := omega) only [nI_add, pk_mul, pk_sub, pk_div, pk_rem, nI_clamp]; with_reducible exact vp_in_nI (by omega) (by omega))) dX13_clause_41 ?_
    rw [nI_clamp (by omega), hrJ.1.2.2.1]
    refine zJ_bipush (v := nI 6) dX13_clause_42 rfl ?_
    refine zJ_icmp_ne 56 dX13_clause_44 (by decide) (fun _ => ?_) (fun c44 => absurd c44 (fun q => zm (Or.inr ⟨k3, by have := (nI_eq (by omega) (by omega)).mp q; omega⟩)))
    exact h56
  · skip
    refine zJ_aload_n dX13_clause_22 rfl ?_
    refine zP_geti lf_X13_163 (zSt_ob hs 74 13 rfl) rfl dX13_clause_23 ?_
    rw [e7]
    refine zJ_bipush (v := nI 60) dX13_clause_26 rfl ?_
    refine zJ_icmp_eq 47 dX13_clause_28 (by decide) (fun c28 => absurd c28 (fun q => by have := (nI_eq (by omega) (by omega)).mp q; omega)) (fun _ => ?_)
    refine zJ_iload_n dX13_clause_31 rfl ?_
    refine zJ_iconst (v := nI 3) dX13_clause_32 rfl ?_
    refine zJ_icmp_ne 56 dX13_clause_33 (by decide) (fun _ => ?_) (fun c33 => absurd c33 (fun q => k3 ((nI_eq (by omega) (by omega)).mp q)))
    exact h56
end ZRefAG
