/-! ===== the law from its first instruction on ===== -/
section ZBegin
variable {l : Launch} {Xi : zXi} {I : zI} {g : zG}
theorem cI_b {J : zI} {g' : zG} {S : sT} {r : zRb} {lim crt : Nat → Int32} (h : cI I g (bdS S r lim crt)) (e : ∀ a, a < 74 → J a = I a) (hs : ∃ lab, shG g' lab) : cI J g' (bdS S r lim crt) := by
  obtain ⟨h1, h2, h3, h4, h5, h6, h7⟩ := h
  refine ⟨tp_of h1 (e 1 (by decide)) (e 2 (by decide)), by rw [e 1 (by decide)]; exact h2, zWi_of h3 (fun a ha => e a (by omega)), zRow_of h4 (fun a q1 q2 => e a (by omega)), zBk_of h5 (fun a q1 q2 => e a (by omega)), ⟨by rw [e 57 (by decide)]; exact h6.1, hs, fun i hi => absurd hi (Nat.not_lt_zero _), fun k hk => absurd hk (Nat.not_lt_zero _)⟩, by rw [e 0 (by decide)]; exact h7⟩
theorem rI_b {J : zI} {S : sT} (h : rI I S) (hf : ∀ a, 74 ≤ a → a ≤ 641 → J a = I a) : rI J S := by
  obtain ⟨h1, h2, h3, h4, h5, h6, h7, h8, h9, h10⟩ := h
  have e : ∀ a, 74 ≤ a → a ≤ 641 → J a = I a := hf
  have f : ∀ k, J 74 k = I 74 k := fun k => by rw [e 74 (by decide) (by decide)]
  have hb := h3.1
  refine ⟨?_, by rw [f 3]; exact h2, rB_of h3 (f 20) (fun a ha => e a (by omega) (by omega)), rRow_of h4 (e 533 (by decide) (by decide)), ?_, ?_, ?_, by rw [f 37]; exact h8, by rw [e 76 (by decide) (by decide)]; exact h9, by rw [e 76 (by decide) (by decide)]; exact h10⟩
  · unfold rTp at *
    rw [f 1, e 75 (by decide) (by decide)]; exact h1
  · refine ⟨by rw [f 35]; exact h5.1, h5.2.1, fun i hi => ?_⟩
    have := h5.2.1
    rw [e (432 + 1 + i) (by omega) (by omega)]; exact h5.2.2 i hi
  · refine ⟨by rw [f 36]; exact h6.1, h6.2.1, fun i hi => ?_⟩
    have := h6.2.1
    exact rRow_of (h6.2.2 i hi) (e _ (by omega) (by omega))
  · refine ⟨by rw [f 38]; exact h7.1, h7.2.1, fun k hk => ?_⟩
    have := h7.2.1
    unfold kR
    rw [e (553 + 1 + k) (by omega) (by omega)]; exact h7.2.2 k hk
theorem pG_0 (h : g.1 = 0) : pG 0 [] g := ⟨h, (fun q hq => by cases hq), fun k hk => absurd hk (Nat.not_lt_zero _), fun k j b hk => absurd hk (Nat.not_lt_zero _), fun k j hk => absurd hk (Nat.not_lt_zero _)⟩
theorem zSt_new {sp : zS} (h : zSt g) : zSt (gnew g sp) := by
  have h1 := h.1
  refine ⟨by show 642 ≤ g.1 + 1; omega, fun k hk => (va_ne (by omega)).trans (h.2.1 k hk), fun k j a hk hz => ?_⟩
  show va_up g.2.2.1 g.1 _ k j = _
  rw [va_ne (by omega)]
  exact h.2.2 k j a hk hz
theorem lw_all (hl : l.stackTraces = false) (hx : Xi.1 ≤ 4608) (h0 : g.1 = 0) : zJ l Xi mL_law_ 60 4227 353826 0 [some (.ref zB), none, none, none, none, none, none] [] (I, g) (fun r _ => r = .inl (some (.int 1))) := by
  refine zN_obj (kc := 4226) (ks := 353807) (N := 19) (pG_0 h0) ln_L_8 rfl (by omega) dL_law__0 (fun I1 g1 G1 e1 f1 => ?_)
  refine zJ_dup dL_law__3 rfl ?_
  refine zJ_callI (kc := 4153) (ks := 347831) [] [.ref 0] li_L_94 (k_new12 (d := 59) hl (by omega) G1 f1) (fun E h1 q => by cases q.1) rfl (by omega) (Nat.le_of_ble_eq_true rfl) dL_law__4 (fun r h1 q _ => ?_)
  obtain ⟨q1, I2, g2, q2, G2, lim, crt, q3, c2⟩ := q
  cases q1
  subst q2
  refine zJ_astore_m 1 dL_law__7 rfl (Nat.le_of_ble_eq_true rfl) (by decide) ?_
  refine zN_obj (kc := 4152) (ks := 347783) (N := 48) G2 ln_L_95 rfl (by omega) dL_law__8 (fun I3 g3 G3 e3 f3 => ?_)
  refine zJ_dup dL_law__11 rfl ?_
  refine zJ_callI (kc := 3585) (ks := 307201) [] [.ref 74] li_L_97 (k_new13 (d := 59) hl (by omega) G3 f3) (fun E h1 q => by cases q.1) rfl (by omega) (Nat.le_of_ble_eq_true rfl) dL_law__12 (fun r h1 q _ => ?_)
  obtain ⟨q1, I4, g4, q2, G4, e4, r4⟩ := q
  cases q1
  subst q2
  refine zJ_astore_m 2 dL_law__15 rfl (Nat.le_of_ble_eq_true rfl) (by decide) ?_
  refine zJ_iconst (v := nI 1) dL_law__16 rfl ?_
  have hs4 := pG_zSt G4
  have h642 : g4.1 = 642 := G4.1
  refine zP_newl (kc := 3584) (ks := 307200) (N := 1) rfl (by omega) (by rw [h642]; unfold zB; omega) dL_law__17 ?_
  rw [h642]
  refine zJ_astore_m 3 dL_law__19 rfl (Nat.le_of_ble_eq_true rfl) (by decide) ?_
  refine zJ_iconst (v := nI 0) dL_law__20 rfl ?_
  refine zJ_istore dL_law__21 (Nat.le_of_ble_eq_true rfl) (by decide) ?_
  have hsh : ∃ lab, shG (gnew g4 (.inr (1, 1))) lab := by
    refine ⟨fun _ => 0, ⟨fun i a hi h => ?_, fun k a hk h => ?_, fun k i a hk hi h => ?_⟩⟩
    · rw [show (gnew g4 (.inr (1, 1))).2.2.1 58 i = none from (by show va_up g4.2.2.1 g4.1 _ 58 i = none; rw [va_ne (by omega)]; exact G4.2.2.2.2 58 i (by omega) (by omega))] at h
      cases h
    · rw [show (gnew g4 (.inr (1, 1))).2.2.1 59 k = none from (by show va_up g4.2.2.1 g4.1 _ 59 k = none; rw [va_ne (by omega)]; exact G4.2.2.2.2 59 k (by omega) (by omega))] at h
      cases h
    · rw [show (gnew g4 (.inr (1, 1))).2.2.1 60 (k * 16 + i) = none from (by show va_up g4.2.2.1 g4.1 _ 60 _ = none; rw [va_ne (by omega)]; exact G4.2.2.2.2 60 _ (by omega) (by omega))] at h
      cases h
  have hh : lvI 0 (inew I4 642, gnew g4 (.inr (1, 1))) (bdS S00 rb0 lim crt) := ⟨zSt_new hs4, ⟨by show 642 < g4.1 + 1; omega, by show va_up g4.2.1 g4.1 _ 642 = _; rw [h642, va_eq]⟩, cI_b c2 (fun a ha => by show inew I4 642 a = I2 a; rw [show inew I4 642 a = I4 a from va_ne (by omega), e4 a (Or.inl ha), e3 a (by omega)]) hsh, rI_b (r4 lim crt q3) (fun a q1 q2 => va_ne (by omega)), bdS_ok rb0_ok, by show 643 ≤ g4.1 + 1; omega, by show g4.1 + 1 ≤ 643 + 6 * 0; omega⟩
  exact zJ_back (zle_r (zle_r (zle_r (zle_r (zle_r (zle_r (zle_r zle_0))))))) rfl (lw_loop hl hx 512 0 _ _ rfl hh)
end ZBegin
