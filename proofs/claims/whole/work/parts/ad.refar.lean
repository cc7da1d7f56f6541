/-! ===== the reference: readsStep ===== -/
section ZRefAR
variable {l : Launch} {Xi : zXi} {d : Nat} {I : zI} {g : zG}
theorem pW_sk1 {bs : Nat → Nat} {L N C R f o b A : Nat} : pW bs L N C R f 1 o b (sk bs L A) = pW bs L N C R f 1 o b A := by
  cases f with
  | zero => rfl
  | succ f => simp only [pW]; rw [sk_sk, woE_sk]; rfl
theorem pW_sk0 {bs : Nat → Nat} {L N C R f o b A : Nat} : pW bs L N C R f 0 o b (sk bs L A) = pW bs L N C R f 0 o b A := by
  cases f with
  | zero => rfl
  | succ f => simp only [pW]; rw [sk_sk, pW_sk1]; rfl
theorem rq_one {k b : Nat} {t : tok} (h5 : t.1 ≤ 5) (h : stR2 I (452 + 1 + k) t) (h3 : I (452 + 1 + k) 3 = nI (k + 1)) : rq I k b [t] ∧ rn [t] 1 = 1 := by
  have e0 : tk [t] 0 = t := rfl
  refine ⟨fun i hi => ?_, ?_⟩
  · have hi2 : i < 1 := hi
    obtain rfl : i = 0 := by omega
    exact ⟨fun _ => ⟨h, h3⟩, fun z => by rw [e0] at z; omega⟩
  · have := rn_st (c := [t]) (i := 0) (by rw [e0]; omega)
    rw [this]; rfl
theorem rq_blk {k b n : Nat} {c : List tok} (h : rq I (k + 1) (b + 1) c) (h0 : I (452 + 1 + k) 0 = nI 6) (h1 : I (452 + 1 + k) 1 = nI n) (h3 : I (452 + 1 + k) 3 = nI (k + 1 + rn c c.length)) : rq I k b ([(6, n, b + 1 + c.length)] ++ c ++ [(7, b, 0)]) ∧ rn ([(6, n, b + 1 + c.length)] ++ c ++ [(7, b, 0)]) ([(6, n, b + 1 + c.length)] ++ c ++ [(7, b, 0)]).length = 1 + rn c c.length := by
  have eC : [(6, n, b + 1 + c.length)] ++ c ++ [(7, b, 0)] = [(6, n, b + 1 + c.length)] ++ (c ++ [((7, b, 0) : tok)]) := by rw [List.append_assoc]
  rw [eC]
  have r1 : rn [((6, n, b + 1 + c.length) : tok)] 1 = 1 := by rfl
  have rr : ∀ y, rn ([(6, n, b + 1 + c.length)] ++ (c ++ [((7, b, 0) : tok)])) (1 + y) = 1 + rn (c ++ [(7, b, 0)]) y := fun y => by
    have := rn_r (c := [((6, n, b + 1 + c.length) : tok)]) (c' := c ++ [((7, b, 0) : tok)]) (y := y)
    exact this
  have r7 : rn (c ++ [((7, b, 0) : tok)]) (c.length + 1) = rn c c.length := by
    have := rn_r (c := c) (c' := [((7, b, 0) : tok)]) (y := 1)
    rw [this]; rfl
  have hlen : ([(6, n, b + 1 + c.length)] ++ (c ++ [((7, b, 0) : tok)])).length = c.length + 2 := by simp
  refine ⟨fun i hi => ?_, by rw [hlen, show c.length + 2 = 1 + (c.length + 1) by omega, rr, r7]⟩
  rw [hlen] at hi
  unfold rq1
  rw [hlen]
  cases i with
  | zero =>
    have e0 : tk ([(6, n, b + 1 + c.length)] ++ (c ++ [((7, b, 0) : tok)])) 0 = (6, n, b + 1 + c.length) := rfl
    rw [e0]
    refine ⟨fun z => absurd (show (6 : Nat) ≤ 5 from z) (by decide), fun _ => ⟨by show b ≤ b + 1 + c.length; omega, by show b + 1 + c.length < b + (c.length + 2); omega, h0, h1, ?_⟩⟩
    show I (452 + 1 + (k + 0)) 3 = nI (k + rn _ (b + 1 + c.length - b))
    rw [show b + 1 + c.length - b = 1 + c.length by omega, rr, rn_l (Nat.le_refl _), ← Nat.add_assoc k 1]
    exact h3
  | succ i =>
    have e0 : tk ([(6, n, b + 1 + c.length)] ++ (c ++ [((7, b, 0) : tok)])) (i + 1) = tk (c ++ [(7, b, 0)]) i := rfl
    rw [e0, Nat.add_comm i 1, rr]
    by_cases z : i < c.length
    · obtain ⟨a1, a2⟩ := h i z
      rw [tk_l z, rn_l (by omega), ← Nat.add_assoc k]
      refine ⟨a1, fun y => ?_⟩
      obtain ⟨q1, q2, q3, q4, q5⟩ := a2 y
      refine ⟨by omega, by omega, q3, q4, ?_⟩
      rw [show (tk c i).2.2 - b = 1 + ((tk c i).2.2 - (b + 1)) by omega, rr, rn_l (by omega), ← Nat.add_assoc k]
      exact q5
    · rw [tk_r (by omega), show i - c.length = 0 by omega]
      exact ⟨fun y => absurd (show (7 : Nat) ≤ 5 from y) (by decide), fun y => absurd (show (7 : Nat) = 6 from y) (by decide)⟩
theorem kdW_le6 {bs : Nat → Nat} {a w : Nat} : kdW bs a w ≤ 7 := kdW_le
set_option maxHeartbeats 4000000 in
theorem cm_step (hl : l.stackTraces = false) (hs : zSt g) {N C R f : Nat} (hU : ∀ k, k ≤ f → cS l Xi g N C R k) : cS l Xi g N C R (f + 1) := by
  intro o d I bs L A b k ho hd hL hz hq hkA hne
  refine zC_of hl rfl rfl rfl (Nat.le_of_ble_eq_true rfl) (zav_r (zSt_ob hs 74 13 rfl).1 zav_0) ?_
  have hAL := hz.2.2.2.1
  have hk75 : k < 80 := by omega
  have hc := zGr_ar (zSt_g452 hs) (i := k) hk75
  obtain ⟨F, hF⟩ : ∃ F, sk bs L A = F := ⟨_, rfl⟩
  obtain ⟨W, hW⟩ : ∃ W, woE bs L A = W := ⟨_, rfl⟩
  have hW2 : sp (ltB bs) L F = W := by rw [← hF, ← hW]; rfl
  have hFL : F ≤ L := by rw [← hF]; exact sp_l hAL
  have hAF : A ≤ F := by rw [← hF]; exact sp_g
  have hWL : W ≤ L := by rw [← hW2]; exact sp_l hFL
  obtain ⟨kd, hkd⟩ : ∃ kd, kdW bs F W = kd := ⟨_, rfl⟩
  have hkd7 : kd ≤ 7 := by rw [← hkd]; exact kdW_le
  have hE : pW bs L N C R (f + 1) 1 o b A = (if kd = 7 then .inl (1, F) else if kd = 6 then (if 6 ≤ o then .inl (3, F) else pbind (pNum bs L 0 41 W) fun n A => pbind (pSign bs L 91 A) fun _ A => pbind (pW bs L N C R f 0 (o + 1) (b + 1) A) fun c A => pbind (pSign bs L 93 A) fun _ A => pbind (pSign bs L 59 A) fun _ A => .inr ([(6, n, b + 1 + c.length)] ++ c ++ [(7, b, 0)], A)) else pbind (pPrim bs L N C R kd W) fun q A1 => pbind (pSign bs L 59 A1) fun _ A1 => .inr ([(kd, q.1, q.2)], A1)) := by rw [← hkd, ← hF, ← hW]; rfl
  obtain ⟨X, hX⟩ : ∃ X, pW bs L N C R (f + 1) 1 o b A = X := ⟨_, rfl⟩
  rw [hX] at hE hne ⊢
  obtain ⟨P, hP⟩ : ∃ P : zR → zH → Prop, P = (fun r' h' => r' = .inl none ∧ ∃ J, h' = (J, g) ∧ fS k I J ∧ rP J bs L X (fun c => rq J k b c ∧ J 74 29 = nI (k + rn c c.length) ∧ J 74 8 = nI o)) := ⟨_, rfl⟩
  rw [← hP]
  by_cases k7 : kd = 7
  · rw [if_pos k7] at hE
    refine zJ_aload_n dX13_readsStep_0 rfl ?_
    refine zP_ecallVi [] _ lv_X13_269 (m_stepHere (d := d - 1) hl (by omega) hs hz hF hW2) (zSt_ob hs 74 13 rfl) rfl (by omega) (Nat.le_of_ble_eq_true rfl) rfl dX13_readsStep_1 (fun v J0 h0 => ?_)
    obtain ⟨rfl, f0, z0⟩ := h0
    rw [hkd, if_pos k7]
    refine zJ_istore_m 1 dX13_readsStep_4 rfl (Nat.le_of_ble_eq_true rfl) (by decide) ?_
    refine zJ_iload_n dX13_readsStep_5 rfl ?_
    refine zJ_iconst (v := -1) dX13_readsStep_6 rfl ?_
    refine zJ_icmp_ne 19 dX13_readsStep_7 (by decide) (fun c7 => absurd rfl c7) (fun _ => ?_)
    refine zJ_aload_n dX13_readsStep_10 rfl ?_
    refine zJ_iconst (v := nI 1) dX13_readsStep_11 rfl ?_
    refine zJ_aload_n dX13_readsStep_12 rfl ?_
    refine zP_geti lf_X13_116 (zSt_ob hs 74 13 rfl) rfl dX13_readsStep_13 ?_
    rw [z0.2.2.1]
    refine zP_ecallVv [_, _] _ lv_X13_136 (m_wrong (d := d - 1) hl (by omega) hs z0 (by omega) (by omega) rfl) (zSt_ob hs 74 13 rfl) rfl (by omega) (Nat.le_of_ble_eq_true rfl) rfl dX13_readsStep_16 (fun J1 h1 => ?_)
    refine zJ_iload_n dX13_readsStep_19 rfl ?_
    refine zJ_bipush (v := nI 6) dX13_readsStep_20 rfl ?_
    refine zJ_icmp_ne 33 dX13_readsStep_22 (by decide) (fun _ => ?_) (fun c22 => absurd c22 (by decide))
    refine zJ_aload_n dX13_readsStep_33 rfl ?_
    refine zP_geti lf_X13_123 (zSt_ob hs 74 13 rfl) rfl dX13_readsStep_34 ?_
    rw [h1.2.2.2.2.2.1]
    refine zJ_if_eq 41 dX13_readsStep_37 (by decide) (fun c37 => absurd c37 (show ¬ nI 1 = 0 by decide)) (fun _ => ?_)
    refine zJ_vret rfl dX13_readsStep_40 ?_
    rw [hP, hE]
    exact ⟨rfl, J1, rfl, fS_ft (ft_trans f0 h1.1), rP_er h1.2⟩
  rw [if_neg k7] at hE
  by_cases k6 : kd = 6
  · skip
    rw [if_pos k6] at hE
    by_cases h6 : 6 ≤ o
    · rw [if_pos h6] at hE
      refine zJ_aload_n dX13_readsStep_0 rfl ?_
      refine zP_ecallVi [] _ lv_X13_269 (m_stepHere (d := d - 1) hl (by omega) hs hz hF hW2) (zSt_ob hs 74 13 rfl) rfl (by omega) (Nat.le_of_ble_eq_true rfl) rfl dX13_readsStep_1 (fun v J0 h0 => ?_)
      obtain ⟨rfl, f0, z0⟩ := h0
      rw [hkd, if_neg k7]
      have s0 := sQ_ft hq f0
      refine zJ_istore_m 1 dX13_readsStep_4 rfl (Nat.le_of_ble_eq_true rfl) (by decide) ?_
      refine zJ_iload_n dX13_readsStep_5 rfl ?_
      refine zJ_iconst (v := -1) dX13_readsStep_6 rfl ?_
      refine zJ_icmp_ne 19 dX13_readsStep_7 (by decide) (fun _ => ?_) (fun c7 => absurd c7 (nI_ne1 (by omega)))
      refine zJ_iload_n dX13_readsStep_19 rfl ?_
      refine zJ_bipush (v := nI 6) dX13_readsStep_20 rfl ?_
      refine zJ_icmp_ne 33 dX13_readsStep_22 (by decide) (fun c22 => absurd (by rw [k6]) c22) (fun _ => ?_)
      refine zJ_aload_n dX13_readsStep_25 rfl ?_
      refine zP_ecallVi [] _ lv_X13_245 (m_opensF (d := d - 1) hl (by omega) hs z0 (by rw [s0.2.1, show o = 6 by omega])) (zSt_ob hs 74 13 rfl) rfl (by omega) (Nat.le_of_ble_eq_true rfl) rfl dX13_readsStep_26 (fun v1 J1 h1 => ?_)
      obtain ⟨rfl, f1, z1⟩ := h1
      refine zJ_if_ne 33 dX13_readsStep_29 (by decide) (fun c29 => absurd rfl c29) (fun _ => ?_)
      refine zJ_vret rfl dX13_readsStep_32 ?_
      rw [hP, hE]
      exact ⟨rfl, J1, rfl, fS_ft (ft_trans f0 f1), rP_er z1⟩
    rw [if_neg h6] at hE
    have fin : ∀ (J : zI) (r3 : PR (List tok)) (n : Nat), fS k I J → rP J bs L r3 (fun c => rq J (k + 1) (b + 1) c ∧ J 74 29 = nI (k + 1 + rn c c.length) ∧ J 74 8 = nI (o + 1) ∧ J (452 + 1 + k) 0 = nI 6 ∧ J (452 + 1 + k) 1 = nI n) → (X = pbind r3 fun c A => pbind (pSign bs L 93 A) fun _ A => pbind (pSign bs L 59 A) fun _ A => .inr ([(6, n, b + 1 + c.length)] ++ c ++ [(7, b, 0)], A)) → zJ l Xi mX13_readsStep d 0 0 193 [some (.ref 74), some (.int (nI kd)), some (.ref (452 + 1 + k))] [] (J, g) P := by
      intro J r3 n hf hp hX3
      have hX4 : X = pbind (pbind (pbind r3 fun x A => pbind (pSign bs L 93 A) fun _ A => (.inr (x, A) : PR (List tok))) fun x A => pbind (pSign bs L 59 A) fun _ A => (.inr (x, A) : PR (List tok))) fun c A => .inr ([(6, n, b + 1 + c.length)] ++ c ++ [(7, b, 0)], A) := by rw [hX3]; simp only [pbind_assoc, pbind_inr]
      rw [hP, hX4]
      refine zJ_aload_n dX13_readsStep_193 rfl ?_
      refine zJ_bipush (v := nI 93) dX13_readsStep_194 rfl ?_
      refine zP_ecallVv [_] _ lv_X13_176 (m_signP (d := d - 1) hl (by omega) hs hp (by omega)) (zSt_ob hs 74 13 rfl) rfl (by omega) (Nat.le_of_ble_eq_true rfl) rfl dX13_readsStep_196 (fun J1 h1 => ?_)
      refine zJ_aload_n dX13_readsStep_199 rfl ?_
      refine zJ_dup dX13_readsStep_200 rfl ?_
      refine zP_geti lf_X13_166 (zSt_ob hs 74 13 rfl) rfl dX13_readsStep_201 ?_
      refine zJ_iconst (v := nI 1) dX13_readsStep_204 rfl ?_
      refine zJ_isub dX13_readsStep_205 ?_
      refine zP_puti lf_X13_166 (zSt_ob hs 74 13 rfl) rfl dX13_readsStep_206 ?_
      refine zJ_aload_n dX13_readsStep_209 rfl ?_
      refine zJ_iconst (v := nI 3) dX13_readsStep_210 rfl ?_
      refine zJ_aload_n dX13_readsStep_211 rfl ?_
      refine zP_geti lf_X13_272 (zSt_ob hs 74 13 rfl) rfl dX13_readsStep_212 ?_
      rw [zup_same, upd_ne (by decide)]
      refine zP_iast hc (by first | assumption | with_reducible exact vp_in_nI (by omega) (by omega) | (simp (disch := omega) only [nI_add, pk_mul, pk_sub, pk_div, pk_rem, nI_clamp]; with_reducible exact vp_in_nI (by omega) (by omega))) dX13_readsStep_215 ?_
      rw [nI_clamp (by omega)]
      refine zJ_aload_n dX13_readsStep_216 rfl ?_
      refine zJ_bipush (v := nI 59) dX13_readsStep_217 rfl ?_
      refine zP_ecallVv [_] _ lv_X13_176 (m_signP (d := d - 1) hl (by omega) hs (rP_zup (rP_of (J := zup J1 74 8 (J1 74 8 - nI 1)) h1.2 (fun j hj => by rw [zup_same, upd_ne (by omega)]) (zup_row (by decide))) (by omega) (by omega)) (by omega)) (zSt_ob hs 74 13 rfl) rfl (by omega) (Nat.le_of_ble_eq_true rfl) rfl dX13_readsStep_219 (fun J2 h2 => ?_)
      refine zJ_vret rfl dX13_readsStep_222 ?_
      obtain ⟨f1, p1⟩ := h1
      obtain ⟨f2, p2⟩ := h2
      refine ⟨rfl, J2, rfl, fS_trans (fS_row (fS_74 (fS_trans hf (fS_ft f1)) (by omega)) (Nat.le_refl _) hk75) (fS_ft f2), rP_map (α := List tok) (β := List tok) (fun c => [(6, n, b + 1 + c.length)] ++ c ++ [(7, b, 0)]) p2 rfl (fun c hq => ?_)⟩
      obtain ⟨q1, q2, q3, q4, q5⟩ := hq
      have eR : ∀ a, a ≠ 74 → a ≠ 452 + 1 + k → J2 a = J a := fun a h1 h2 => by rw [f2.1 a h1, zup_row h2, zup_row h1, f1.1 a h1]
      have e3 : J2 (452 + 1 + k) = upd (J (452 + 1 + k)) 3 (J1 74 29) := by rw [f2.1 _ (by omega), zup_same, zup_row (by omega), f1.1 _ (by omega)]
      have e29 : J1 74 29 = nI (k + 1 + rn c c.length) := (f1.2 29 (by decide) (by decide) (by decide)).trans q2
      have hrq : rq J2 (k + 1) (b + 1) c := rq_of q1 (fun a h1 h2 => eR a (by omega) (by omega))
      obtain ⟨w1, w2⟩ := rq_blk (n := n) hrq (by rw [e3, upd_ne (by decide)]; exact q4) (by rw [e3, upd_ne (by decide)]; exact q5) (by rw [e3, upd_at]; exact e29)
      refine ⟨w1, ?_, ?_⟩
      · rw [f2.2 29 (by decide) (by decide) (by decide), zup_row (by omega), zup_same, upd_ne (by decide), e29]
        rw [w2, ← Nat.add_assoc]
      · rw [f2.2 8 (by decide) (by decide) (by decide), zup_row (by omega), zup_same, upd_at, f1.2 8 (by decide) (by decide) (by decide), q3, pk_sub (by omega), Nat.add_sub_cancel]
    have flt : ∀ (J : zI) (A' n : Nat) (q : Nat × Nat), fS k I J → rz J bs L A' (some q) → X = .inl q → zJ l Xi mX13_readsStep d 0 0 162 [some (.ref 74), some (.int (nI kd)), some (.ref (452 + 1 + k))] [] (J, g) P := by
      intro J A' n q hf hz hX
      have hp : rP J bs L (.inl q : PR Unit) (fun _ => True) := rP_er hz
      refine zJ_aload_n dX13_readsStep_162 rfl ?_
      refine zP_geti lf_X13_123 (zSt_ob hs 74 13 rfl) rfl dX13_readsStep_163 ?_
      refine zJ_if_ne 193 dX13_readsStep_166 (by decide) (fun _ => ?_) (fun c166 => absurd c166 (rP_isE (q := q) hp))
      exact fin J (.inl q) 0 hf (rP_chg (q := q) hp) hX
    have loop : ∀ kf, kf ≤ f → ∀ (J : zI) (B n : Nat) (c0 : List tok), fS k I J → rz J bs L B none → sk bs L B = B → sQ J N C R (o + 1) (k + 1 + rn c0 c0.length) → rq J (k + 1) (b + 1) c0 → J (452 + 1 + k) 0 = nI 6 → J (452 + 1 + k) 1 = nI n → 2 * (k + 1 + rn c0 c0.length) ≤ B → pW bs L N C R kf 0 (o + 1) (b + 1 + c0.length) B ≠ .inl (0, 0) → (X = pbind (pbind (pW bs L N C R kf 0 (o + 1) (b + 1 + c0.length) B) fun c A => (.inr (c0 ++ c, A) : PR (List tok))) fun c A => pbind (pSign bs L 93 A) fun _ A => pbind (pSign bs L 59 A) fun _ A => .inr ([(6, n, b + 1 + c.length)] ++ c ++ [(7, b, 0)], A)) → zJ l Xi mX13_readsStep d 0 0 162 [some (.ref 74), some (.int (nI kd)), some (.ref (452 + 1 + k))] [] (J, g) P := by
      intro kf
      induction kf with
      | zero => intro _ J B n c0 _ _ _ _ _ _ _ _ hn _; exact absurd rfl hn
      | succ kf ih =>
        intro hkf J B n c0 hf hz hB hq hrq h0 h1 hk2 hn hXX
        have hBL := hz.2.2.2.1
        have he : pW bs L N C R (kf + 1) 0 (o + 1) (b + 1 + c0.length) B = (if hitB bs L B 93 then .inr ([], B) else pbind (pW bs L N C R kf 1 (o + 1) (b + 1 + c0.length) B) fun c A => pbind (pW bs L N C R kf 0 (o + 1) (b + 1 + c0.length + c.length) A) fun c' A => .inr (c ++ c', A)) := by
          have h9 : pW bs L N C R (kf + 1) 0 (o + 1) (b + 1 + c0.length) B = (if pStop bs L (o + 1) (sk bs L B) then .inr ([], sk bs L B) else pbind (pW bs L N C R kf 1 (o + 1) (b + 1 + c0.length) B) fun c A => pbind (pW bs L N C R kf 0 (o + 1) (b + 1 + c0.length + c.length) A) fun c' A => .inr (c ++ c', A)) := rfl
          rw [h9, hB]
          have h8 : pStop bs L (o + 1) B = hitB bs L B 93 := by unfold pStop; rw [if_neg (by omega)]
          rw [h8]
        rw [he] at hn hXX
        cases hh : hitB bs L B 93 with
        | true =>
          rw [hh, if_pos rfl, pbind_inr, List.append_nil] at hXX
          refine zJ_aload_n dX13_readsStep_162 rfl ?_
          refine zP_geti lf_X13_123 (zSt_ob hs 74 13 rfl) rfl dX13_readsStep_163 ?_
          refine zJ_if_ne 193 dX13_readsStep_166 (by decide) (fun c166 => absurd hz.2.2.2.2.1 c166) (fun _ => ?_)
          refine zJ_aload_n dX13_readsStep_169 rfl ?_
          refine zJ_aload_n dX13_readsStep_170 rfl ?_
          refine zP_geti lf_X13_116 (zSt_ob hs 74 13 rfl) rfl dX13_readsStep_171 ?_
          rw [hz.2.2.1]
          refine zP_callVi [_] _ lv_X13_119 (m_byteAt (d := d - 1) hl (by omega) hs hz (by omega)) (zSt_ob hs 74 13 rfl) rfl (by omega) (Nat.le_of_ble_eq_true rfl) rfl dX13_readsStep_174 ?_
          refine zJ_bipush (v := nI 93) dX13_readsStep_177 rfl ?_
          refine zJ_icmp_eq 193 dX13_readsStep_179 (by decide) (fun _ => ?_) (fun c179 => absurd ((by_eq (fun y => (hz.2.2.2.2.2.2.2 _ y).2) (by omega)).mpr hh) c179)
          exact fin J (.inr (c0, B)) n hf (rP_mk hz ⟨hrq, hq.2.2, hq.2.1, h0, h1⟩) hXX
        | false =>
          rw [hh, if_neg (by decide)] at hn hXX
          have hn1 : pW bs L N C R kf 1 (o + 1) (b + 1 + c0.length) B ≠ .inl (0, 0) := fun z => hn (by rw [z]; rfl)
          refine zJ_aload_n dX13_readsStep_162 rfl ?_
          refine zP_geti lf_X13_123 (zSt_ob hs 74 13 rfl) rfl dX13_readsStep_163 ?_
          refine zJ_if_ne 193 dX13_readsStep_166 (by decide) (fun c166 => absurd hz.2.2.2.2.1 c166) (fun _ => ?_)
          refine zJ_aload_n dX13_readsStep_169 rfl ?_
          refine zJ_aload_n dX13_readsStep_170 rfl ?_
          refine zP_geti lf_X13_116 (zSt_ob hs 74 13 rfl) rfl dX13_readsStep_171 ?_
          rw [hz.2.2.1]
          refine zP_callVi [_] _ lv_X13_119 (m_byteAt (d := d - 1) hl (by omega) hs hz (by omega)) (zSt_ob hs 74 13 rfl) rfl (by omega) (Nat.le_of_ble_eq_true rfl) rfl dX13_readsStep_174 ?_
          refine zJ_bipush (v := nI 93) dX13_readsStep_177 rfl ?_
          refine zJ_icmp_eq 193 dX13_readsStep_179 (by decide) (fun c179 => absurd c179 (fun z => by rw [by_eq (fun y => (hz.2.2.2.2.2.2.2 _ y).2) (by omega), hh] at z; cases z)) (fun _ => ?_)
          refine zJ_aload_n dX13_readsStep_182 rfl ?_
          refine zP_ecallVv [] _ lv_X13_278 (hU kf (by omega) (o + 1) (d - 1) J bs L B (b + 1 + c0.length) (k + 1 + rn c0 c0.length) (by omega) (by omega) hL hz hq hk2 hn1) (zSt_ob hs 74 13 rfl) rfl (by omega) (Nat.le_of_ble_eq_true rfl) rfl dX13_readsStep_183 (fun J1 h2 => ?_)
          obtain ⟨f1, p1⟩ := h2
          have hfJ : fS k I J1 := fS_trans hf (fS_up f1 (by omega))
          cases hc1 : pW bs L N C R kf 1 (o + 1) (b + 1 + c0.length) B with
          | inl q =>
            rw [hc1] at p1 hXX
            obtain ⟨A1, z1, -⟩ := p1
            refine zJ_aload_n dX13_readsStep_186 rfl ?_
            refine zP_ecallVv [] _ lv_X13_129 (m_blanks (d := d - 1) hl (by omega) hs z1) (zSt_ob hs 74 13 rfl) rfl (by omega) (Nat.le_of_ble_eq_true rfl) rfl dX13_readsStep_187 (fun J2 h2 => ?_)
            refine zJ_goto 162 dX13_readsStep_190 (by decide) ?_
            exact flt J2 _ n q (fS_trans hfJ (fS_ft h2.1)) h2.2 hXX
          | inr q =>
            obtain ⟨c1, A1⟩ := q
            have pk := pW_ok hc1 hBL
            rw [hc1] at p1 hXX hn
            obtain ⟨z1, g1, g2, g3⟩ := rP_ok p1
            refine zJ_aload_n dX13_readsStep_186 rfl ?_
            refine zP_ecallVv [] _ lv_X13_129 (m_blanks (d := d - 1) hl (by omega) hs z1) (zSt_ob hs 74 13 rfl) rfl (by omega) (Nat.le_of_ble_eq_true rfl) rfl dX13_readsStep_187 (fun J2 h2 => ?_)
            refine zJ_goto 162 dX13_readsStep_190 (by decide) ?_
            obtain ⟨f2, z2⟩ := h2
            have hAL1 := z1.2.2.2.1
            have hsk : A1 ≤ sk bs L A1 := sp_g
            have hrl : rn c1 c1.length ≤ c1.length := rn_le
            have hrr : rn (c0 ++ c1) (c0 ++ c1).length = rn c0 c0.length + rn c1 c1.length := by rw [List.length_append]; exact rn_r
            have er : ∀ a, a ≠ 74 → a < 453 + (k + 1 + rn c0 c0.length) → J2 a = J a := fun a q1 q2 => by rw [f2.1 a q1, f1.1 a q1 (Or.inl q2)]
            refine ih (by omega) J2 (sk bs L A1) n (c0 ++ c1) (fS_trans hfJ (fS_ft f2)) z2 sk_sk ?_ ?_ (by rw [er _ (by omega) (by omega)]; exact h0) (by rw [er _ (by omega) (by omega)]; exact h1) (by rw [hrr]; omega) ?_ ?_
            · refine ⟨?_, ?_, ?_⟩
              · rw [er 78 (by decide) (by omega)]; exact hq.1
              · rw [f2.2 8 (by decide) (by decide) (by decide)]; exact g3
              · rw [f2.2 29 (by decide) (by decide) (by decide), g2, hrr, ← Nat.add_assoc]
            · refine rq_app (rq_of hrq (fun a q1 q2 => er a (by omega) (by omega))) (rq_of g1 (fun a q1 q2 => f2.1 a (by omega)))
            · rw [pW_sk0, List.length_append, ← Nat.add_assoc]
              exact fun z => hn (by rw [pbind_inr, z]; rfl)
            · rw [hXX, pW_sk0, List.length_append, ← Nat.add_assoc]
              simp only [pbind_assoc, pbind_inr, List.append_assoc]
    refine zJ_aload_n dX13_readsStep_0 rfl ?_
    refine zP_ecallVi [] _ lv_X13_269 (m_stepHere (d := d - 1) hl (by omega) hs hz hF hW2) (zSt_ob hs 74 13 rfl) rfl (by omega) (Nat.le_of_ble_eq_true rfl) rfl dX13_readsStep_1 (fun v J0 h0 => ?_)
    obtain ⟨rfl, f0, z0⟩ := h0
    rw [hkd, if_neg k7]
    have s0 := sQ_ft hq f0
    refine zJ_istore_m 1 dX13_readsStep_4 rfl (Nat.le_of_ble_eq_true rfl) (by decide) ?_
    refine zJ_iload_n dX13_readsStep_5 rfl ?_
    refine zJ_iconst (v := -1) dX13_readsStep_6 rfl ?_
    refine zJ_icmp_ne 19 dX13_readsStep_7 (by decide) (fun _ => ?_) (fun c7 => absurd c7 (nI_ne1 (by omega)))
    refine zJ_iload_n dX13_readsStep_19 rfl ?_
    refine zJ_bipush (v := nI 6) dX13_readsStep_20 rfl ?_
    refine zJ_icmp_ne 33 dX13_readsStep_22 (by decide) (fun c22 => absurd (by rw [k6]) c22) (fun _ => ?_)
    refine zJ_aload_n dX13_readsStep_25 rfl ?_
    refine zP_callVi [] _ lv_X13_245 (m_opensT (d := d - 1) (w := o) hl (by omega) hs z0 s0.2.1 (by omega)) (zSt_ob hs 74 13 rfl) rfl (by omega) (Nat.le_of_ble_eq_true rfl) rfl dX13_readsStep_26 ?_
    refine zJ_if_ne 33 dX13_readsStep_29 (by decide) (fun _ => ?_) (fun c29 => absurd c29 (by decide))
    refine zJ_aload_n dX13_readsStep_33 rfl ?_
    refine zP_geti lf_X13_123 (zSt_ob hs 74 13 rfl) rfl dX13_readsStep_34 ?_
    rw [zup_same, upd_ne (by decide)]
    refine zJ_if_eq 41 dX13_readsStep_37 (by decide) (fun _ => ?_) (fun c37 => absurd z0.2.2.2.2.1 c37)
    refine zJ_aload_n dX13_readsStep_41 rfl ?_
    refine zP_ecallVv [] _ lv_X13_160 (m_skipWord (d := d - 1) hl (by omega) hs (rz_of (J := zup J0 74 8 (nI (o + 1))) z0 (fun j hj => by rw [zup_same, upd_ne (by omega)]) (zup_row (by decide)))) (zSt_ob hs 74 13 rfl) rfl (by omega) (Nat.le_of_ble_eq_true rfl) rfl dX13_readsStep_42 (fun J1 h1 => ?_)
    obtain ⟨f1, z1⟩ := h1
    rw [hW2] at z1
    refine zJ_aload_n dX13_readsStep_45 rfl ?_
    refine zP_getr lf_X13_67 (zSt_ob hs 74 13 rfl) rfl (zSt_rf hs 74 28 452 rfl) dX13_readsStep_46 ?_
    refine zJ_aload_n dX13_readsStep_49 rfl ?_
    refine zP_geti lf_X13_272 (zSt_ob hs 74 13 rfl) rfl dX13_readsStep_50 ?_
    rw [f1.2 29 (by decide) (by decide) (by decide), zup_same, upd_ne (by decide), s0.2.2]
    refine zP_rowK (k := k) (zSt_g452 hs) (by omega) (by decide) dX13_readsStep_53 ?_
    refine zJ_astore_m 2 dX13_readsStep_54 rfl (Nat.le_of_ble_eq_true rfl) (by decide) ?_
    refine zJ_aload_n dX13_readsStep_55 rfl ?_
    refine zJ_dup dX13_readsStep_56 rfl ?_
    refine zP_geti lf_X13_272 (zSt_ob hs 74 13 rfl) rfl dX13_readsStep_57 ?_
    rw [f1.2 29 (by decide) (by decide) (by decide), zup_same, upd_ne (by decide), s0.2.2]
    refine zJ_iconst (v := nI 1) dX13_readsStep_60 rfl ?_
    refine zJ_iadd dX13_readsStep_61 ?_
    rw [nI_add]
    refine zP_puti lf_X13_272 (zSt_ob hs 74 13 rfl) rfl dX13_readsStep_62 ?_
    refine zJ_aload_n dX13_readsStep_65 rfl ?_
    refine zJ_iconst (v := nI 0) dX13_readsStep_66 rfl ?_
    refine zJ_iload_n dX13_readsStep_67 rfl ?_
    refine zP_iast (zGr_ar (zSt_g452 hs) (i := k) (by omega)) (by first | assumption | with_reducible exact vp_in_nI (by omega) (by omega) | (simp (disch := omega) only [nI_add, pk_mul, pk_sub, pk_div, pk_rem, nI_clamp]; with_reducible exact vp_in_nI (by omega) (by omega))) dX13_readsStep_68 ?_
    refine zJ_iload_n dX13_readsStep_69 rfl ?_
    refine zJ_if_le 94 dX13_readsStep_70 (by decide) (fun c70 => absurd c70 (nI_nle (by omega) (by omega))) (fun _ => ?_)
    refine zJ_iload_n dX13_readsStep_73 rfl ?_
    refine zJ_iconst (v := nI 4) dX13_readsStep_74 rfl ?_
    refine zJ_icmp_ge 94 dX13_readsStep_75 (by decide) (fun _ => ?_) (fun c75 => absurd (nI_le (by omega) (by omega)) c75)
    refine zJ_iload_n dX13_readsStep_94 rfl ?_
    refine zJ_iconst (v := nI 3) dX13_readsStep_95 rfl ?_
    refine zJ_icmp_ne 109 dX13_readsStep_96 (by decide) (fun _ => ?_) (fun c96 => absurd c96 (by rw [k6]; decide))
    refine zJ_iload_n dX13_readsStep_109 rfl ?_
    refine zJ_iconst (v := nI 4) dX13_readsStep_110 rfl ?_
    refine zJ_icmp_ne 121 dX13_readsStep_111 (by decide) (fun _ => ?_) (fun c111 => absurd c111 (by rw [k6]; decide))
    refine zJ_iload_n dX13_readsStep_121 rfl ?_
    refine zJ_iconst (v := nI 5) dX13_readsStep_122 rfl ?_
    refine zJ_icmp_ne 136 dX13_readsStep_123 (by decide) (fun _ => ?_) (fun c123 => absurd c123 (by rw [k6]; decide))
    refine zJ_iload_n dX13_readsStep_136 rfl ?_
    refine zJ_bipush (v := nI 6) dX13_readsStep_137 rfl ?_
    refine zJ_icmp_ne 209 dX13_readsStep_139 (by decide) (fun c139 => absurd (by rw [k6]) c139) (fun _ => ?_)
    rw [nI_clamp (by omega)]
    obtain ⟨K, hK⟩ : ∃ K, zup (zup J1 74 29 (nI (k + 1))) (452 + 1 + k) 0 (nI kd) = K := ⟨_, rfl⟩
    rw [hK]
    have fK : fS k I K := by rw [← hK]; exact fS_row (fS_74 (fS_trans (fS_74 (fS_ft f0) (by omega)) (fS_ft f1)) (by omega)) (Nat.le_refl _) hk75
    have zK : rz K bs L W none := by rw [← hK]; exact rz_of z1 (fun j hj => by rw [zup_row (by omega), zup_same, upd_ne (by omega)]) (by rw [zup_row (by omega), zup_row (by decide)])
    have sK : sQ K N C R (o + 1) (k + 1) := by
      rw [← hK]
      refine ⟨by rw [zup_row (by omega), zup_row (by decide), f1.1 78 (by decide), zup_row (by decide)]; exact s0.1, by rw [zup_row (by omega), zup_same, upd_ne (by decide), f1.2 8 (by decide) (by decide) (by decide), zup_same, upd_at], by rw [zup_row (by omega), zup_same, upd_at]⟩
    have k0 : K (452 + 1 + k) 0 = nI 6 := by rw [← hK, zup_same, upd_at, k6]
    refine zJ_aload_n dX13_readsStep_142 rfl ?_
    refine zJ_iconst (v := nI 1) dX13_readsStep_143 rfl ?_
    refine zJ_aload_n dX13_readsStep_144 rfl ?_
    refine zJ_iconst (v := nI 0) dX13_readsStep_145 rfl ?_
    refine zJ_bipush (v := nI 40) dX13_readsStep_146 rfl ?_
    refine zP_ecallVi [_, _] _ lv_X13_169 (m_number0 (lo := 0) (hi := 41) (d := d - 1) hl (by omega) hs zK (by omega) (by omega) rfl (show nI 40 = nI 41 - nI 1 by decide)) (zSt_ob hs 74 13 rfl) rfl (by omega) (Nat.le_of_ble_eq_true rfl) rfl dX13_readsStep_148 (fun x J2 h2 => ?_)
    refine zP_iast hc (by first | assumption | with_reducible exact vp_in_nI (by omega) (by omega) | (simp (disch := omega) only [nI_add, pk_mul, pk_sub, pk_div, pk_rem, nI_clamp]; with_reducible exact vp_in_nI (by omega) (by omega))) dX13_readsStep_151 ?_
    rw [nI_clamp (by omega)]
    refine zJ_aload_n dX13_readsStep_152 rfl ?_
    refine zJ_bipush (v := nI 91) dX13_readsStep_153 rfl ?_
    refine zP_ecallVv [_] _ lv_X13_176 (m_signP (d := d - 1) hl (by omega) hs (rP_zup h2.2 (by omega) (by omega)) (by omega)) (zSt_ob hs 74 13 rfl) rfl (by omega) (Nat.le_of_ble_eq_true rfl) rfl dX13_readsStep_155 (fun J3 h3 => ?_)
    obtain ⟨f2, p2⟩ := h2
    obtain ⟨f3, p3⟩ := h3
    have hf3 : fS k I J3 := fS_trans (fS_row (fS_trans fK (fS_ft f2)) (Nat.le_refl _) hk75) (fS_ft f3)
    obtain ⟨R3, hR3⟩ : ∃ R3, (pbind (pNum bs L 0 41 W) fun x A => pbind (pSign bs L 91 A) fun _ A => (.inr (x, A) : PR Nat)) = R3 := ⟨_, rfl⟩
    have hXR : X = pbind R3 fun n A => pbind (pW bs L N C R f 0 (o + 1) (b + 1) A) fun c A => pbind (pSign bs L 93 A) fun _ A => pbind (pSign bs L 59 A) fun _ A => .inr ([(6, n, b + 1 + c.length)] ++ c ++ [(7, b, 0)], A) := by rw [hE, ← hR3]; simp only [pbind_assoc, pbind_inr]
    rw [hR3] at p3
    cases R3 with
    | inl q =>
      obtain ⟨A3, z3, -⟩ := p3
      refine zJ_aload_n dX13_readsStep_158 rfl ?_
      refine zP_ecallVv [] _ lv_X13_129 (m_blanks (d := d - 1) hl (by omega) hs z3) (zSt_ob hs 74 13 rfl) rfl (by omega) (Nat.le_of_ble_eq_true rfl) rfl dX13_readsStep_159 (fun J4 h4 => ?_)
      exact flt J4 _ 0 q (fS_trans hf3 (fS_ft h4.1)) h4.2 hXR
    | inr q =>
      obtain ⟨n, A3⟩ := q
      obtain ⟨z3, hx, -, hn41⟩ := rP_ok p3
      rw [pbind_inr] at hXR
      have hA3 : W + 2 ≤ A3 := by
        obtain ⟨n', a1, e1, e2⟩ := pbind_ok hR3
        obtain ⟨u, a2, e3, e4⟩ := pbind_ok e2
        cases e4
        have := pNum_ok e1 hWL
        have := pSign_ok e3
        omega
      refine zJ_aload_n dX13_readsStep_158 rfl ?_
      refine zP_ecallVv [] _ lv_X13_129 (m_blanks (d := d - 1) hl (by omega) hs z3) (zSt_ob hs 74 13 rfl) rfl (by omega) (Nat.le_of_ble_eq_true rfl) rfl dX13_readsStep_159 (fun J4 h4 => ?_)
      obtain ⟨f4, z4⟩ := h4
      have hsk3 : A3 ≤ sk bs L A3 := sp_g
      have hWF : F ≤ W := by rw [← hW2]; exact sp_g
      have er : J4 (452 + 1 + k) = upd (K (452 + 1 + k)) 1 x := by rw [f4.1 _ (by omega), f3.1 _ (by omega), zup_same, f2.1 _ (by omega)]
      refine loop f (Nat.le_refl _) J4 (sk bs L A3) n [] (fS_trans hf3 (fS_ft f4)) z4 sk_sk ?_ (fun i hi => absurd hi (Nat.not_lt_zero _)) (by rw [er, upd_ne (by decide)]; exact k0) (by rw [er, upd_at]; exact hx) ?_ ?_ ?_
      · refine sQ_ft ?_ f4
        refine sQ_ft ?_ f3
        have s2 := sQ_ft sK f2
        exact ⟨by rw [zup_row (by omega)]; exact s2.1, by rw [zup_row (by omega)]; exact s2.2.1, by rw [zup_row (by omega)]; exact s2.2.2⟩
      · show 2 * (k + 1 + 0) ≤ _
        omega
      · rw [pW_sk0]
        refine fun z => hne ?_
        have z' : pW bs L N C R f 0 (o + 1) (b + 1) A3 = .inl (0, 0) := z
        rw [hXR, z']; rfl
      · rw [hXR, pW_sk0]
        simp only [pbind_assoc, pbind_inr, List.nil_append, List.length_nil, Nat.add_zero]
  rw [if_neg k6] at hE
  have hkd5 : kd ≤ 5 := by omega
  have fin : ∀ (J : zI) (r1 : PR (Nat × Nat)), fS k I J → rP J bs L r1 (fun q => stR2 J (452 + 1 + k) (kd, q.1, q.2)) → J 74 29 = nI (k + 1) → J 74 8 = nI o → pPrim bs L N C R kd W = r1 → zJ l Xi mX13_readsStep d 0 0 209 [some (.ref 74), some (.int (nI kd)), some (.ref (452 + 1 + k))] [] (J, g) P := by
    intro J r1 hf hp h29 h8 he
    rw [he] at hE
    have hEx : X = pbind (pbind r1 fun x A => pbind (pSign bs L 59 A) fun _ A => (.inr (x, A) : PR (Nat × Nat))) fun q A => .inr ([(kd, q.1, q.2)], A) := by rw [hE]; simp only [pbind_assoc, pbind_inr]
    rw [hP, hEx]
    refine zJ_aload_n dX13_readsStep_209 rfl ?_
    refine zJ_iconst (v := nI 3) dX13_readsStep_210 rfl ?_
    refine zJ_aload_n dX13_readsStep_211 rfl ?_
    refine zP_geti lf_X13_272 (zSt_ob hs 74 13 rfl) rfl dX13_readsStep_212 ?_
    rw [h29]
    refine zP_iast hc (by first | assumption | with_reducible exact vp_in_nI (by omega) (by omega) | (simp (disch := omega) only [nI_add, pk_mul, pk_sub, pk_div, pk_rem, nI_clamp]; with_reducible exact vp_in_nI (by omega) (by omega))) dX13_readsStep_215 ?_
    rw [nI_clamp (by omega)]
    refine zJ_aload_n dX13_readsStep_216 rfl ?_
    refine zJ_bipush (v := nI 59) dX13_readsStep_217 rfl ?_
    refine zP_ecallVv [_] _ lv_X13_176 (m_signP (d := d - 1) hl (by omega) hs (rP_zup hp (by omega) (by omega)) (by omega)) (zSt_ob hs 74 13 rfl) rfl (by omega) (Nat.le_of_ble_eq_true rfl) rfl dX13_readsStep_219 (fun J2 h2 => ?_)
    refine zJ_vret rfl dX13_readsStep_222 ?_
    obtain ⟨f2, p2⟩ := h2
    refine ⟨rfl, J2, rfl, fS_trans (fS_row hf (Nat.le_refl _) hk75) (fS_ft f2), rP_map (α := Nat × Nat) (β := List tok) (fun q => [(kd, q.1, q.2)]) p2 rfl (fun q hq => ?_)⟩
    have e3 : J2 (452 + 1 + k) = upd (J (452 + 1 + k)) 3 (nI (k + 1)) := by rw [f2.1 _ (by omega), zup_same]
    have hst : stR2 J2 (452 + 1 + k) (kd, q.1, q.2) := by
      unfold stR2 at hq ⊢
      rw [e3, upd_ne (by decide), upd_ne (by decide), upd_ne (by decide)]; exact hq
    obtain ⟨q1, q2⟩ := rq_one (b := b) (t := (kd, q.1, q.2)) hkd5 hst (by rw [e3, upd_at])
    refine ⟨q1, ?_, ?_⟩
    · rw [f2.2 29 (by decide) (by decide) (by decide), zup_row (by omega), h29]
      show nI (k + 1) = nI (k + rn [(kd, q.1, q.2)] 1)
      rw [q2]
    · rw [f2.2 8 (by decide) (by decide) (by decide), zup_row (by omega)]; exact h8
  have go : ∀ (J : zI), fS k I J → rz J bs L W none → sQ J N C R o (k + 1) → J (452 + 1 + k) 0 = nI kd → zJ l Xi mX13_readsStep d 0 0 69 [some (.ref 74), some (.int (nI kd)), some (.ref (452 + 1 + k))] [] (J, g) P := by
    intro J hf hz hq h0
    have hq0 := hq
    obtain ⟨⟨q1, q2, q3, q4, q5, q6⟩, q7, q8⟩ := hq
    have hkk : kd = 0 ∨ (kd = 1 ∨ kd = 2) ∨ kd = 3 ∨ kd = 4 ∨ kd = 5 := by omega
    rcases hkk with k0 | k0 | k0 | k0 | k0
    · skip
      refine zJ_iload_n dX13_readsStep_69 rfl ?_
      refine zJ_if_le 94 dX13_readsStep_70 (by decide) (fun _ => ?_) (fun c70 => absurd (by rw [k0]; decide) c70)
      refine zJ_iload_n dX13_readsStep_94 rfl ?_
      refine zJ_iconst (v := nI 3) dX13_readsStep_95 rfl ?_
      refine zJ_icmp_ne 109 dX13_readsStep_96 (by decide) (fun _ => ?_) (fun c96 => absurd c96 (by rw [k0]; decide))
      refine zJ_iload_n dX13_readsStep_109 rfl ?_
      refine zJ_iconst (v := nI 4) dX13_readsStep_110 rfl ?_
      refine zJ_icmp_ne 121 dX13_readsStep_111 (by decide) (fun _ => ?_) (fun c111 => absurd c111 (by rw [k0]; decide))
      refine zJ_iload_n dX13_readsStep_121 rfl ?_
      refine zJ_iconst (v := nI 5) dX13_readsStep_122 rfl ?_
      refine zJ_icmp_ne 136 dX13_readsStep_123 (by decide) (fun _ => ?_) (fun c123 => absurd c123 (by rw [k0]; decide))
      refine zJ_iload_n dX13_readsStep_136 rfl ?_
      refine zJ_bipush (v := nI 6) dX13_readsStep_137 rfl ?_
      refine zJ_icmp_ne 209 dX13_readsStep_139 (by decide) (fun _ => ?_) (fun c139 => absurd c139 (by rw [k0]; decide))
      refine fin J (.inr ((0, 0), W)) hf (rP_mk hz ⟨h0, fun z => ?_, fun z => ?_, fun z => ?_, fun z => ?_⟩) q8 q7 (by rw [k0]; rfl)
      all_goals exact absurd (show kd = kd from rfl) (by simp only [] at z; omega)
    · have hpr : pPrim bs L N C R kd W = pbind (pNum bs L 0 N W) fun n A => .inr ((n, 0), A) := by
        unfold pPrim; rw [if_neg (by omega), if_pos k0]
      refine zJ_iload_n dX13_readsStep_69 rfl ?_
      refine zJ_if_le 94 dX13_readsStep_70 (by decide) (fun c70 => absurd c70 (nI_nle (by omega) (by omega))) (fun _ => ?_)
      refine zJ_iload_n dX13_readsStep_73 rfl ?_
      refine zJ_iconst (v := nI 4) dX13_readsStep_74 rfl ?_
      refine zJ_icmp_ge 94 dX13_readsStep_75 (by decide) (fun c75 => absurd c75 (nI_ge (by omega) (by omega))) (fun _ => ?_)
      refine zJ_aload_n dX13_readsStep_78 rfl ?_
      refine zJ_iconst (v := nI 1) dX13_readsStep_79 rfl ?_
      refine zJ_aload_n dX13_readsStep_80 rfl ?_
      refine zJ_iconst (v := nI 0) dX13_readsStep_81 rfl ?_
      refine zJ_aload_n dX13_readsStep_82 rfl ?_
      refine zP_getr lf_X13_23 (zSt_ob hs 74 13 rfl) rfl (zSt_rf hs 74 12 78 rfl) dX13_readsStep_83 ?_
      refine zJ_iconst (v := nI 2) dX13_readsStep_86 rfl ?_
      refine zP_iald (zSt_ar hs 78 4 rfl) (by first | assumption | with_reducible exact vp_in_nI (by omega) (by omega) | (simp (disch := omega) only [nI_add, pk_mul, pk_sub, pk_div, pk_rem, nI_clamp]; with_reducible exact vp_in_nI (by omega) (by omega))) dX13_readsStep_87 ?_
      rw [nI_clamp (by omega), q3]
      refine zJ_iconst (v := nI 1) dX13_readsStep_88 rfl ?_
      refine zJ_isub dX13_readsStep_89 ?_
      refine zP_ecallVi [_, _] _ lv_X13_169 (m_number0 (lo := 0) (hi := N) (d := d - 1) hl (by omega) hs hz (by omega) (by omega) rfl rfl) (zSt_ob hs 74 13 rfl) rfl (by omega) (Nat.le_of_ble_eq_true rfl) rfl dX13_readsStep_90 (fun x J1 h1 => ?_)
      refine zP_iast hc (by first | assumption | with_reducible exact vp_in_nI (by omega) (by omega) | (simp (disch := omega) only [nI_add, pk_mul, pk_sub, pk_div, pk_rem, nI_clamp]; with_reducible exact vp_in_nI (by omega) (by omega))) dX13_readsStep_93 ?_
      rw [nI_clamp (by omega)]
      refine zJ_iload_n dX13_readsStep_94 rfl ?_
      refine zJ_iconst (v := nI 3) dX13_readsStep_95 rfl ?_
      refine zJ_icmp_ne 109 dX13_readsStep_96 (by decide) (fun _ => ?_) (fun c96 => absurd c96 (fun z => by have := (nI_eq (by omega) (by omega)).mp z; omega))
      refine zJ_iload_n dX13_readsStep_109 rfl ?_
      refine zJ_iconst (v := nI 4) dX13_readsStep_110 rfl ?_
      refine zJ_icmp_ne 121 dX13_readsStep_111 (by decide) (fun _ => ?_) (fun c111 => absurd c111 (fun z => by have := (nI_eq (by omega) (by omega)).mp z; omega))
      refine zJ_iload_n dX13_readsStep_121 rfl ?_
      refine zJ_iconst (v := nI 5) dX13_readsStep_122 rfl ?_
      refine zJ_icmp_ne 136 dX13_readsStep_123 (by decide) (fun _ => ?_) (fun c123 => absurd c123 (fun z => by have := (nI_eq (by omega) (by omega)).mp z; omega))
      refine zJ_iload_n dX13_readsStep_136 rfl ?_
      refine zJ_bipush (v := nI 6) dX13_readsStep_137 rfl ?_
      refine zJ_icmp_ne 209 dX13_readsStep_139 (by decide) (fun _ => ?_) (fun c139 => absurd c139 (fun z => by have := (nI_eq (by omega) (by omega)).mp z; omega))
      obtain ⟨f1, p1⟩ := h1
      refine fin _ _ (fS_row (fS_trans hf (fS_ft f1)) (Nat.le_refl _) hk75) (rP_map (α := Nat) (β := Nat × Nat) (fun n => (n, 0)) (rP_zup p1 (by omega) (by omega)) rfl (fun n hn => ⟨?_, fun _ => ?_, fun z => ?_, fun z => ?_, fun z => ?_⟩)) (by rw [zup_row (by omega), f1.2 29 (by decide) (by decide) (by decide)]; exact q8) (by rw [zup_row (by omega), f1.2 8 (by decide) (by decide) (by decide)]; exact q7) hpr
      · rw [zup_same, upd_ne (by decide), f1.1 _ (by omega)]; exact h0
      · rw [zup_same, upd_at]; exact hn.1
      all_goals (exfalso; simp only [] at z; omega)
    · have hpr : pPrim bs L N C R kd W = pbind (pbind (pNum bs L 0 N W) fun n A => pbind (pNum bs L 0 10 A) fun c A => (.inr ((n, c), A) : PR (Nat × Nat))) fun q A => .inr (q, A) := by
        unfold pPrim; rw [if_neg (by omega), if_neg (by omega), if_pos k0]; simp only [pbind_assoc, pbind_inr]
      refine zJ_iload_n dX13_readsStep_69 rfl ?_
      refine zJ_if_le 94 dX13_readsStep_70 (by decide) (fun c70 => absurd c70 (nI_nle (by omega) (by omega))) (fun _ => ?_)
      refine zJ_iload_n dX13_readsStep_73 rfl ?_
      refine zJ_iconst (v := nI 4) dX13_readsStep_74 rfl ?_
      refine zJ_icmp_ge 94 dX13_readsStep_75 (by decide) (fun c75 => absurd c75 (nI_ge (by omega) (by omega))) (fun _ => ?_)
      refine zJ_aload_n dX13_readsStep_78 rfl ?_
      refine zJ_iconst (v := nI 1) dX13_readsStep_79 rfl ?_
      refine zJ_aload_n dX13_readsStep_80 rfl ?_
      refine zJ_iconst (v := nI 0) dX13_readsStep_81 rfl ?_
      refine zJ_aload_n dX13_readsStep_82 rfl ?_
      refine zP_getr lf_X13_23 (zSt_ob hs 74 13 rfl) rfl (zSt_rf hs 74 12 78 rfl) dX13_readsStep_83 ?_
      refine zJ_iconst (v := nI 2) dX13_readsStep_86 rfl ?_
      refine zP_iald (zSt_ar hs 78 4 rfl) (by first | assumption | with_reducible exact vp_in_nI (by omega) (by omega) | (simp (disch := omega) only [nI_add, pk_mul, pk_sub, pk_div, pk_rem, nI_clamp]; with_reducible exact vp_in_nI (by omega) (by omega))) dX13_readsStep_87 ?_
      rw [nI_clamp (by omega), q3]
      refine zJ_iconst (v := nI 1) dX13_readsStep_88 rfl ?_
      refine zJ_isub dX13_readsStep_89 ?_
      refine zP_ecallVi [_, _] _ lv_X13_169 (m_number0 (lo := 0) (hi := N) (d := d - 1) hl (by omega) hs hz (by omega) (by omega) rfl rfl) (zSt_ob hs 74 13 rfl) rfl (by omega) (Nat.le_of_ble_eq_true rfl) rfl dX13_readsStep_90 (fun x J1 h1 => ?_)
      refine zP_iast hc (by first | assumption | with_reducible exact vp_in_nI (by omega) (by omega) | (simp (disch := omega) only [nI_add, pk_mul, pk_sub, pk_div, pk_rem, nI_clamp]; with_reducible exact vp_in_nI (by omega) (by omega))) dX13_readsStep_93 ?_
      rw [nI_clamp (by omega)]
      refine zJ_iload_n dX13_readsStep_94 rfl ?_
      refine zJ_iconst (v := nI 3) dX13_readsStep_95 rfl ?_
      refine zJ_icmp_ne 109 dX13_readsStep_96 (by decide) (fun c96 => absurd (by rw [k0]) c96) (fun _ => ?_)
      refine zJ_aload_n dX13_readsStep_99 rfl ?_
      refine zJ_iconst (v := nI 2) dX13_readsStep_100 rfl ?_
      refine zJ_aload_n dX13_readsStep_101 rfl ?_
      refine zJ_iconst (v := nI 0) dX13_readsStep_102 rfl ?_
      refine zJ_bipush (v := nI 9) dX13_readsStep_103 rfl ?_
      refine zP_ecallVi [_, _] _ lv_X13_169 (m_numP (lo := 0) (hi := 10) (d := d - 1) hl (by omega) hs (rP_zup h1.2 (by omega) (by omega)) (by omega) (by omega) rfl (show nI 9 = nI 10 - nI 1 by decide)) (zSt_ob hs 74 13 rfl) rfl (by omega) (Nat.le_of_ble_eq_true rfl) rfl dX13_readsStep_105 (fun y J2 h2 => ?_)
      refine zP_iast hc (by first | assumption | with_reducible exact vp_in_nI (by omega) (by omega) | (simp (disch := omega) only [nI_add, pk_mul, pk_sub, pk_div, pk_rem, nI_clamp]; with_reducible exact vp_in_nI (by omega) (by omega))) dX13_readsStep_108 ?_
      rw [nI_clamp (by omega)]
      refine zJ_iload_n dX13_readsStep_109 rfl ?_
      refine zJ_iconst (v := nI 4) dX13_readsStep_110 rfl ?_
      refine zJ_icmp_ne 121 dX13_readsStep_111 (by decide) (fun _ => ?_) (fun c111 => absurd c111 (by rw [k0]; decide))
      refine zJ_iload_n dX13_readsStep_121 rfl ?_
      refine zJ_iconst (v := nI 5) dX13_readsStep_122 rfl ?_
      refine zJ_icmp_ne 136 dX13_readsStep_123 (by decide) (fun _ => ?_) (fun c123 => absurd c123 (by rw [k0]; decide))
      refine zJ_iload_n dX13_readsStep_136 rfl ?_
      refine zJ_bipush (v := nI 6) dX13_readsStep_137 rfl ?_
      refine zJ_icmp_ne 209 dX13_readsStep_139 (by decide) (fun _ => ?_) (fun c139 => absurd c139 (by rw [k0]; decide))
      obtain ⟨f1, p1⟩ := h1
      obtain ⟨f2, p2⟩ := h2
      refine fin _ _ (fS_row (fS_trans (fS_row (fS_trans hf (fS_ft f1)) (Nat.le_refl _) hk75) (fS_ft f2)) (Nat.le_refl _) hk75) (rP_map (α := Nat × Nat) (β := Nat × Nat) (fun q => q) (rP_zup p2 (by omega) (by omega)) rfl (fun q hn => ⟨?_, fun _ => ?_, fun _ => ?_, fun z => ?_, fun z => ?_⟩)) (by rw [zup_row (by omega), f2.2 29 (by decide) (by decide) (by decide), zup_row (by omega), f1.2 29 (by decide) (by decide) (by decide)]; exact q8) (by rw [zup_row (by omega), f2.2 8 (by decide) (by decide) (by decide), zup_row (by omega), f1.2 8 (by decide) (by decide) (by decide)]; exact q7) hpr
      · rw [zup_same, upd_ne (by decide), f2.1 _ (by omega), zup_same, upd_ne (by decide), f1.1 _ (by omega)]; exact h0
      · rw [zup_same, upd_ne (by decide), f2.1 _ (by omega), zup_same, upd_at]; exact hn.1.1
      · rw [zup_same, upd_at]; exact hn.2.1
      all_goals (exfalso; simp only [] at z; omega)
    · have hpr : pPrim bs L N C R kd W = pbind (pbind (pNum bs L 0 C W) fun x A => pbind (pNum bs L 0 R A) fun y A => (.inr ((x, y), A) : PR (Nat × Nat))) fun q A => .inr (q, A) := by
        unfold pPrim; rw [if_neg (by omega), if_neg (by omega), if_neg (by omega), if_pos k0]; simp only [pbind_assoc, pbind_inr]
      refine zJ_iload_n dX13_readsStep_69 rfl ?_
      refine zJ_if_le 94 dX13_readsStep_70 (by decide) (fun c70 => absurd c70 (nI_nle (by omega) (by omega))) (fun _ => ?_)
      refine zJ_iload_n dX13_readsStep_73 rfl ?_
      refine zJ_iconst (v := nI 4) dX13_readsStep_74 rfl ?_
      refine zJ_icmp_ge 94 dX13_readsStep_75 (by decide) (fun _ => ?_) (fun c75 => absurd (nI_le (by omega) (by omega)) c75)
      refine zJ_iload_n dX13_readsStep_94 rfl ?_
      refine zJ_iconst (v := nI 3) dX13_readsStep_95 rfl ?_
      refine zJ_icmp_ne 109 dX13_readsStep_96 (by decide) (fun _ => ?_) (fun c96 => absurd c96 (by rw [k0]; decide))
      refine zJ_iload_n dX13_readsStep_109 rfl ?_
      refine zJ_iconst (v := nI 4) dX13_readsStep_110 rfl ?_
      refine zJ_icmp_ne 121 dX13_readsStep_111 (by decide) (fun c111 => absurd (by rw [k0]) c111) (fun _ => ?_)
      refine zJ_aload_n dX13_readsStep_114 rfl ?_
      refine zJ_iconst (v := nI 1) dX13_readsStep_115 rfl ?_
      refine zJ_aload_n dX13_readsStep_116 rfl ?_
      refine zP_ecallVi [] _ lv_X13_275 (m_placeHere (d := d - 1) hl (by omega) hs hz hq0) (zSt_ob hs 74 13 rfl) rfl (by omega) (Nat.le_of_ble_eq_true rfl) rfl dX13_readsStep_117 (fun x J1 h1 => ?_)
      refine zP_iast hc (by first | assumption | with_reducible exact vp_in_nI (by omega) (by omega) | (simp (disch := omega) only [nI_add, pk_mul, pk_sub, pk_div, pk_rem, nI_clamp]; with_reducible exact vp_in_nI (by omega) (by omega))) dX13_readsStep_120 ?_
      rw [nI_clamp (by omega)]
      refine zJ_iload_n dX13_readsStep_121 rfl ?_
      refine zJ_iconst (v := nI 5) dX13_readsStep_122 rfl ?_
      refine zJ_icmp_ne 136 dX13_readsStep_123 (by decide) (fun _ => ?_) (fun c123 => absurd c123 (by rw [k0]; decide))
      refine zJ_iload_n dX13_readsStep_136 rfl ?_
      refine zJ_bipush (v := nI 6) dX13_readsStep_137 rfl ?_
      refine zJ_icmp_ne 209 dX13_readsStep_139 (by decide) (fun _ => ?_) (fun c139 => absurd c139 (by rw [k0]; decide))
      obtain ⟨f1, p1⟩ := h1
      refine fin _ _ (fS_row (fS_trans hf (fS_ft f1)) (Nat.le_refl _) hk75) (rP_map (α := Nat × Nat) (β := Nat × Nat) (fun q => q) (rP_zup p1 (by omega) (by omega)) rfl (fun q hn => ⟨?_, fun z => ?_, fun z => ?_, fun _ => ?_, fun z => ?_⟩)) (by rw [zup_row (by omega), f1.2 29 (by decide) (by decide) (by decide)]; exact q8) (by rw [zup_row (by omega), f1.2 8 (by decide) (by decide) (by decide)]; exact q7) hpr
      · rw [zup_same, upd_ne (by decide), f1.1 _ (by omega)]; exact h0
      · exfalso; simp only [] at z; omega
      · exfalso; simp only [] at z; omega
      · rw [zup_same, upd_at]; exact hn.1
      · exfalso; simp only [] at z; omega
    · have hpr : pPrim bs L N C R kd W = pbind (pNum bs L 1 100 W) fun n A => .inr ((n, 0), A) := by
        unfold pPrim; rw [if_neg (by omega), if_neg (by omega), if_neg (by omega), if_neg (by omega)]
      refine zJ_iload_n dX13_readsStep_69 rfl ?_
      refine zJ_if_le 94 dX13_readsStep_70 (by decide) (fun c70 => absurd c70 (nI_nle (by omega) (by omega))) (fun _ => ?_)
      refine zJ_iload_n dX13_readsStep_73 rfl ?_
      refine zJ_iconst (v := nI 4) dX13_readsStep_74 rfl ?_
      refine zJ_icmp_ge 94 dX13_readsStep_75 (by decide) (fun _ => ?_) (fun c75 => absurd (nI_le (by omega) (by omega)) c75)
      refine zJ_iload_n dX13_readsStep_94 rfl ?_
      refine zJ_iconst (v := nI 3) dX13_readsStep_95 rfl ?_
      refine zJ_icmp_ne 109 dX13_readsStep_96 (by decide) (fun _ => ?_) (fun c96 => absurd c96 (by rw [k0]; decide))
      refine zJ_iload_n dX13_readsStep_109 rfl ?_
      refine zJ_iconst (v := nI 4) dX13_readsStep_110 rfl ?_
      refine zJ_icmp_ne 121 dX13_readsStep_111 (by decide) (fun _ => ?_) (fun c111 => absurd c111 (by rw [k0]; decide))
      refine zJ_iload_n dX13_readsStep_121 rfl ?_
      refine zJ_iconst (v := nI 5) dX13_readsStep_122 rfl ?_
      refine zJ_icmp_ne 136 dX13_readsStep_123 (by decide) (fun c123 => absurd (by rw [k0]) c123) (fun _ => ?_)
      refine zJ_aload_n dX13_readsStep_126 rfl ?_
      refine zJ_iconst (v := nI 1) dX13_readsStep_127 rfl ?_
      refine zJ_aload_n dX13_readsStep_128 rfl ?_
      refine zJ_iconst (v := nI 1) dX13_readsStep_129 rfl ?_
      refine zJ_bipush (v := nI 99) dX13_readsStep_130 rfl ?_
      refine zP_ecallVi [_, _] _ lv_X13_169 (m_number0 (lo := 1) (hi := 100) (d := d - 1) hl (by omega) hs hz (by omega) (by omega) rfl (show nI 99 = nI 100 - nI 1 by decide)) (zSt_ob hs 74 13 rfl) rfl (by omega) (Nat.le_of_ble_eq_true rfl) rfl dX13_readsStep_132 (fun x J1 h1 => ?_)
      refine zP_iast hc (by first | assumption | with_reducible exact vp_in_nI (by omega) (by omega) | (simp (disch := omega) only [nI_add, pk_mul, pk_sub, pk_div, pk_rem, nI_clamp]; with_reducible exact vp_in_nI (by omega) (by omega))) dX13_readsStep_135 ?_
      rw [nI_clamp (by omega)]
      refine zJ_iload_n dX13_readsStep_136 rfl ?_
      refine zJ_bipush (v := nI 6) dX13_readsStep_137 rfl ?_
      refine zJ_icmp_ne 209 dX13_readsStep_139 (by decide) (fun _ => ?_) (fun c139 => absurd c139 (by rw [k0]; decide))
      obtain ⟨f1, p1⟩ := h1
      refine fin _ _ (fS_row (fS_trans hf (fS_ft f1)) (Nat.le_refl _) hk75) (rP_map (α := Nat) (β := Nat × Nat) (fun n => (n, 0)) (rP_zup p1 (by omega) (by omega)) rfl (fun n hn => ⟨?_, fun z => ?_, fun z => ?_, fun z => ?_, fun _ => ?_⟩)) (by rw [zup_row (by omega), f1.2 29 (by decide) (by decide) (by decide)]; exact q8) (by rw [zup_row (by omega), f1.2 8 (by decide) (by decide) (by decide)]; exact q7) hpr
      · rw [zup_same, upd_ne (by decide), f1.1 _ (by omega)]; exact h0
      · exfalso; simp only [] at z; omega
      · exfalso; simp only [] at z; omega
      · exfalso; simp only [] at z; omega
      · rw [zup_same, upd_at]; exact hn.1
  refine zJ_aload_n dX13_readsStep_0 rfl ?_
  refine zP_ecallVi [] _ lv_X13_269 (m_stepHere (d := d - 1) hl (by omega) hs hz hF hW2) (zSt_ob hs 74 13 rfl) rfl (by omega) (Nat.le_of_ble_eq_true rfl) rfl dX13_readsStep_1 (fun v J0 h0 => ?_)
  obtain ⟨rfl, f0, z0⟩ := h0
  rw [hkd, if_neg k7]
  have s0 := sQ_ft hq f0
  refine zJ_istore_m 1 dX13_readsStep_4 rfl (Nat.le_of_ble_eq_true rfl) (by decide) ?_
  refine zJ_iload_n dX13_readsStep_5 rfl ?_
  refine zJ_iconst (v := -1) dX13_readsStep_6 rfl ?_
  refine zJ_icmp_ne 19 dX13_readsStep_7 (by decide) (fun _ => ?_) (fun c7 => absurd c7 (nI_ne1 (by omega)))
  refine zJ_iload_n dX13_readsStep_19 rfl ?_
  refine zJ_bipush (v := nI 6) dX13_readsStep_20 rfl ?_
  refine zJ_icmp_ne 33 dX13_readsStep_22 (by decide) (fun _ => ?_) (fun c22 => absurd c22 (fun z => k6 ((nI_eq (by omega) (by omega)).mp z)))
  refine zJ_aload_n dX13_readsStep_33 rfl ?_
  refine zP_geti lf_X13_123 (zSt_ob hs 74 13 rfl) rfl dX13_readsStep_34 ?_
  refine zJ_if_eq 41 dX13_readsStep_37 (by decide) (fun _ => ?_) (fun c37 => absurd z0.2.2.2.2.1 c37)
  refine zJ_aload_n dX13_readsStep_41 rfl ?_
  refine zP_ecallVv [] _ lv_X13_160 (m_skipWord (d := d - 1) hl (by omega) hs z0) (zSt_ob hs 74 13 rfl) rfl (by omega) (Nat.le_of_ble_eq_true rfl) rfl dX13_readsStep_42 (fun J1 h1 => ?_)
  obtain ⟨f1, z1⟩ := h1
  rw [hW2] at z1
  have s1 := sQ_ft s0 f1
  refine zJ_aload_n dX13_readsStep_45 rfl ?_
  refine zP_getr lf_X13_67 (zSt_ob hs 74 13 rfl) rfl (zSt_rf hs 74 28 452 rfl) dX13_readsStep_46 ?_
  refine zJ_aload_n dX13_readsStep_49 rfl ?_
  refine zP_geti lf_X13_272 (zSt_ob hs 74 13 rfl) rfl dX13_readsStep_50 ?_
  rw [s1.2.2]
  refine zP_rowK (k := k) (zSt_g452 hs) (by omega) (by decide) dX13_readsStep_53 ?_
  refine zJ_astore_m 2 dX13_readsStep_54 rfl (Nat.le_of_ble_eq_true rfl) (by decide) ?_
  refine zJ_aload_n dX13_readsStep_55 rfl ?_
  refine zJ_dup dX13_readsStep_56 rfl ?_
  refine zP_geti lf_X13_272 (zSt_ob hs 74 13 rfl) rfl dX13_readsStep_57 ?_
  rw [s1.2.2]
  refine zJ_iconst (v := nI 1) dX13_readsStep_60 rfl ?_
  refine zJ_iadd dX13_readsStep_61 ?_
  rw [nI_add]
  refine zP_puti lf_X13_272 (zSt_ob hs 74 13 rfl) rfl dX13_readsStep_62 ?_
  refine zJ_aload_n dX13_readsStep_65 rfl ?_
  refine zJ_iconst (v := nI 0) dX13_readsStep_66 rfl ?_
  refine zJ_iload_n dX13_readsStep_67 rfl ?_
  refine zP_iast (zGr_ar (zSt_g452 hs) (i := k) (by omega)) (by first | assumption | with_reducible exact vp_in_nI (by omega) (by omega) | (simp (disch := omega) only [nI_add, pk_mul, pk_sub, pk_div, pk_rem, nI_clamp]; with_reducible exact vp_in_nI (by omega) (by omega))) dX13_readsStep_68 ?_
  rw [nI_clamp (by omega)]
  refine go _ (fS_row (fS_74 (fS_ft (ft_trans f0 f1)) (by omega)) (Nat.le_refl _) hk75) (rz_of z1 (fun j hj => by rw [zup_row (by omega), zup_same, upd_ne (by omega)]) (by rw [zup_row (by omega), zup_row (by decide)])) ⟨by rw [zup_row (by omega), zup_row (by decide)]; exact s1.1, by rw [zup_row (by omega), zup_same, upd_ne (by decide)]; exact s1.2.1, by rw [zup_row (by omega), zup_same, upd_at]⟩ (by rw [zup_same, upd_at])
end ZRefAR
