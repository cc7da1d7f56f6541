/-! ===== the reference: a law's text ===== -/
section ZRefAM
variable {l : Launch} {Xi : zXi} {d : Nat} {I : zI} {g : zG}
/-- codes read so far -/
def rLw (I : zI) (cs : List Int32) : Prop := I 74 21 = nI cs.length ∧ cs.length ≤ 150 ∧ ∀ i, i < cs.length → lpO (I (271 + 1 + i) 0) (I (271 + 1 + i) 1) (cs.getD i 0)
theorem rLw_of {J : zI} {cs : List Int32} (h : rLw I cs) (e0 : J 74 21 = I 74 21) (e : ∀ a, 272 ≤ a → a ≤ 431 → J a = I a) : rLw J cs := ⟨e0.trans h.1, h.2.1, fun i hi => by have := h.2.1; rw [e (271 + 1 + i) (by omega) (by omega)]; exact h.2.2 i hi⟩
theorem rLw_ft {J : zI} {cs : List Int32} (h : rLw I cs) (hf : ft I J) : rLw J cs := rLw_of h (hf.2 21 (by decide) (by decide) (by decide)) (fun a q1 q2 => hf.1 a (by omega))
def lR (J : zI) (bs : Nat → Nat) (L o : Nat) (r : PR (List Int32)) : Prop := rP J bs L r (fun cs => rLw J cs ∧ J 74 8 = nI o)
def fl3 (I J : zI) : Prop := (∀ a, a ≠ 74 → (a < 272 ∨ 431 < a) → J a = I a) ∧ ∀ k, k ≠ 4 → k ≠ 5 → k ≠ 6 → k ≠ 8 → k ≠ 21 → J 74 k = I 74 k
theorem fl3_rfl : fl3 I I := ⟨fun _ _ _ => rfl, fun _ _ _ _ _ _ => rfl⟩
theorem fl3_trans {J K : zI} (h : fl3 I J) (h2 : fl3 J K) : fl3 I K := ⟨fun a q1 q2 => (h2.1 a q1 q2).trans (h.1 a q1 q2), fun k q1 q2 q3 q4 q5 => (h2.2 k q1 q2 q3 q4 q5).trans (h.2 k q1 q2 q3 q4 q5)⟩
theorem fl3_ft {J : zI} (h : ft I J) : fl3 I J := ⟨fun a q1 _ => h.1 a q1, fun k q1 q2 q3 _ _ => h.2 k q1 q2 q3⟩
theorem fl3_op {J : zI} {x : Int32} (h : fl3 I J) : fl3 I (zup J 74 8 x) := ⟨fun a q1 q2 => by rw [zup_row q1]; exact h.1 a q1 q2, fun k q1 q2 q3 q4 q5 => by rw [zup_same, upd_ne q4]; exact h.2 k q1 q2 q3 q4 q5⟩
theorem lR_ft {J : zI} {bs : Nat → Nat} {L o : Nat} {r : PR (List Int32)} (h : rP J bs L r (fun cs => rLw I cs ∧ I 74 8 = nI o)) (hf : ft I J) : lR J bs L o r := rP_imp h (fun cs hc => ⟨rLw_ft hc.1 hf, (hf.2 8 (by decide) (by decide) (by decide)).trans hc.2⟩)
theorem lR_eq {bs : Nat → Nat} {L o : Nat} {r r' : PR (List Int32)} (h : lR I bs L o r) (e : r = r') : lR I bs L o r' := by rw [← e]; exact h
theorem m_signL (hl : l.stackTraces = false) (hd : 3 ≤ d) (hs : zSt g) {bs : Nat → Nat} {L c o : Nat} {r : PR (List Int32)} (h : lR I bs L o r) (hc : c < 256) : zEv l Xi mX13_sign d [.ref 74, .int (nI c)] I g (fun J => fl3 I J ∧ lR J bs L o (pbind r fun x A => pbind (pSign bs L c A) fun _ A => .inr (x, A))) := by
  refine zC_imp (m_signP hl hd hs h hc) (fun r' h' hp => ?_)
  obtain ⟨h1, J, h2, h3, h4⟩ := hp
  exact ⟨h1, J, h2, fl3_ft h3, lR_ft h4 h3⟩
theorem m_notesL (hl : l.stackTraces = false) (hd : 1 ≤ d) (hs : zSt g) {bs : Nat → Nat} {L o : Nat} {r : PR (List Int32)} {x y c : Int32} (h : lR I bs L o r) (hlp : ∀ q, r = .inr q → lpO x y c) (hlen : ∀ cs a, r = .inr (cs, a) → cs.length + 1 ≤ 150) : zEv l Xi mX13_notes d [.ref 74, .int x, .int y] I g (fun J => fl3 I J ∧ lR J bs L o (pbind r fun cs A => .inr (cs ++ [c], A))) := by
  refine zC_of hl rfl rfl rfl (Nat.le_of_ble_eq_true rfl) (zav_r (zSt_ob hs 74 13 rfl).1 (zav_i (zav_i zav_0))) ?_
  cases r with
  | inl q =>
    refine zJ_aload_n dX13_notes_0 rfl ?_
    refine zP_geti lf_X13_123 (zSt_ob hs 74 13 rfl) rfl dX13_notes_1 ?_
    refine zJ_if_eq 8 dX13_notes_4 (by decide) (fun c4 => absurd c4 (rP_isE (q := q) h)) (fun _ => ?_)
    refine zJ_vret rfl dX13_notes_7 ?_
    exact ⟨rfl, I, rfl, fl3_rfl, rP_chg (q := q) h⟩
  | inr q =>
    obtain ⟨cs, A⟩ := q
    obtain ⟨hz, ⟨hn, h150, hw⟩, ho⟩ := rP_ok h
    have hl1 := hlen cs A rfl
    have hp := hlp _ rfl
    obtain ⟨K, hK⟩ : ∃ K, zup (zup (zup I (271 + 1 + cs.length) 0 x) (271 + 1 + cs.length) 1 y) 74 21 (nI (cs.length + 1)) = K := ⟨_, rfl⟩
    have e : ∀ a, a ≠ 74 → a ≠ 271 + 1 + cs.length → K a = I a := fun a q1 q2 => by rw [← hK, zup_row q1, zup_row q2, zup_row q2]
    have f : ∀ k, k ≠ 21 → K 74 k = I 74 k := fun k q => by rw [← hK, zup_same, upd_ne q, zup_row (by omega), zup_row (by omega)]
    have f21 : K 74 21 = nI (cs.length + 1) := by rw [← hK, zup_same, upd_at]
    have e0 : K (271 + 1 + cs.length) 0 = x := by rw [← hK, zup_row (by omega), zup_same, upd_ne (by decide), zup_same, upd_at]
    have e1 : K (271 + 1 + cs.length) 1 = y := by rw [← hK, zup_row (by omega), zup_same, upd_at]
    refine zJ_aload_n dX13_notes_0 rfl ?_
    refine zP_geti lf_X13_123 (zSt_ob hs 74 13 rfl) rfl dX13_notes_1 ?_
    refine zJ_if_eq 8 dX13_notes_4 (by decide) (fun _ => ?_) (fun c4 => absurd hz.2.2.2.2.1 c4)
    refine zJ_aload_n dX13_notes_8 rfl ?_
    refine zP_getr lf_X13_52 (zSt_ob hs 74 13 rfl) rfl (zSt_rf hs 74 23 271 rfl) dX13_notes_9 ?_
    refine zJ_aload_n dX13_notes_12 rfl ?_
    refine zP_geti lf_X13_227 (zSt_ob hs 74 13 rfl) rfl dX13_notes_13 ?_
    rw [hn]
    refine zP_rowK (k := cs.length) (zSt_g271 hs) (by omega) (by decide) dX13_notes_16 ?_
    refine zJ_iconst (v := nI 0) dX13_notes_17 rfl ?_
    refine zJ_iload_n dX13_notes_18 rfl ?_
    refine zP_iast (zGr_ar (zSt_g271 hs) (i := cs.length) (by omega)) (by first | assumption | with_reducible exact vp_in_nI (by omega) (by omega) | (simp (disch := omega) only [nI_add, pk_mul, pk_sub, pk_div, pk_rem, nI_clamp]; with_reducible exact vp_in_nI (by omega) (by omega))) dX13_notes_19 ?_
    refine zJ_aload_n dX13_notes_20 rfl ?_
    refine zP_getr lf_X13_52 (zSt_ob hs 74 13 rfl) rfl (zSt_rf hs 74 23 271 rfl) dX13_notes_21 ?_
    refine zJ_aload_n dX13_notes_24 rfl ?_
    refine zP_geti lf_X13_227 (zSt_ob hs 74 13 rfl) rfl dX13_notes_25 ?_
    rw [zup_row (by omega), hn]
    refine zP_rowK (k := cs.length) (zSt_g271 hs) (by omega) (by decide) dX13_notes_28 ?_
    refine zJ_iconst (v := nI 1) dX13_notes_29 rfl ?_
    refine zJ_iload_n dX13_notes_30 rfl ?_
    refine zP_iast (zGr_ar (zSt_g271 hs) (i := cs.length) (by omega)) (by first | assumption | with_reducible exact vp_in_nI (by omega) (by omega) | (simp (disch := omega) only [nI_add, pk_mul, pk_sub, pk_div, pk_rem, nI_clamp]; with_reducible exact vp_in_nI (by omega) (by omega))) dX13_notes_31 ?_
    refine zJ_aload_n dX13_notes_32 rfl ?_
    refine zJ_dup dX13_notes_33 rfl ?_
    refine zP_geti lf_X13_227 (zSt_ob hs 74 13 rfl) rfl dX13_notes_34 ?_
    rw [zup_row (by omega), zup_row (by omega), hn]
    refine zJ_iconst (v := nI 1) dX13_notes_37 rfl ?_
    refine zJ_iadd dX13_notes_38 ?_
    rw [nI_add]
    refine zP_puti lf_X13_227 (zSt_ob hs 74 13 rfl) rfl dX13_notes_39 ?_
    refine zJ_vret rfl dX13_notes_42 ?_
    rw [nI_clamp (n := 0) (by omega), nI_clamp (n := 1) (by omega), hK]
    refine ⟨rfl, K, rfl, ⟨fun a q1 q2 => e a q1 (by omega), fun k _ _ _ _ q5 => f k q5⟩, ?_⟩
    simp only [pbind]
    refine rP_mk (rz_of hz (fun k hk => f k (by omega)) (e 75 (by decide) (by omega))) ⟨⟨by rw [f21, List.length_append, List.length_singleton], by rw [List.length_append, List.length_singleton]; omega, fun i hi => ?_⟩, (f 8 (by decide)).trans ho⟩
    rw [List.length_append, List.length_singleton] at hi
    by_cases z : i = cs.length
    · rw [z, e0, e1, List.getD_eq_getElem?_getD, List.getElem?_append_right (Nat.le_refl _), Nat.sub_self]
      exact hp
    · rw [e (271 + 1 + i) (by omega) (by omega), List.getD_eq_getElem?_getD, List.getElem?_append_left (by omega), ← List.getD_eq_getElem?_getD]
      exact hw i (by omega)
theorem m_opensF (hl : l.stackTraces = false) (hd : 2 ≤ d) (hs : zSt g) {bs : Nat → Nat} {L A : Nat} (h : rz I bs L A none) (h8 : I 74 8 = nI 6) : zEi l Xi mX13_opensOne d [.ref 74] I g (fun v J => v = nI 0 ∧ ft I J ∧ rz J bs L A (some (3, A))) := by
  refine zC_of hl rfl rfl rfl (Nat.le_of_ble_eq_true rfl) (zav_r (zSt_ob hs 74 13 rfl).1 zav_0) ?_
  refine zJ_aload_n dX13_opensOne_0 rfl ?_
  refine zP_geti lf_X13_123 (zSt_ob hs 74 13 rfl) rfl dX13_opensOne_1 ?_
  refine zJ_if_ne 28 dX13_opensOne_4 (by decide) (fun c4 => absurd h.2.2.2.2.1 c4) (fun _ => ?_)
  refine zJ_aload_n dX13_opensOne_7 rfl ?_
  refine zP_geti lf_X13_166 (zSt_ob hs 74 13 rfl) rfl dX13_opensOne_8 ?_
  rw [h8]
  refine zJ_bipush (v := nI 6) dX13_opensOne_11 rfl ?_
  refine zJ_icmp_ne 28 dX13_opensOne_13 (by decide) (fun c13 => absurd rfl c13) (fun _ => ?_)
  refine zJ_aload_n dX13_opensOne_16 rfl ?_
  refine zJ_iconst (v := nI 3) dX13_opensOne_17 rfl ?_
  refine zJ_aload_n dX13_opensOne_18 rfl ?_
  refine zP_geti lf_X13_116 (zSt_ob hs 74 13 rfl) rfl dX13_opensOne_19 ?_
  rw [h.2.2.1]
  refine zP_ecallVv [_, _] _ lv_X13_136 (m_wrong (d := d - 1) hl (by omega) hs h (by omega) (by omega) rfl) (zSt_ob hs 74 13 rfl) rfl (by omega) (Nat.le_of_ble_eq_true rfl) rfl dX13_opensOne_22 (fun J hJ => ?_)
  refine zJ_goto 45 dX13_opensOne_25 (by decide) ?_
  refine zJ_aload_n dX13_opensOne_45 rfl ?_
  refine zP_geti lf_X13_123 (zSt_ob hs 74 13 rfl) rfl dX13_opensOne_46 ?_
  rw [hJ.2.2.2.2.2.1]
  refine zJ_if_ne 56 dX13_opensOne_49 (by decide) (fun _ => ?_) (fun c49 => absurd c49 (show ¬ nI 3 = 0 by decide))
  refine zJ_iconst (v := nI 0) dX13_opensOne_56 rfl ?_
  refine zJ_zret rfl (by decide) dX13_opensOne_57 ?_
  exact ⟨_, J, rfl, rfl, rfl, hJ.1, hJ.2⟩
theorem m_opensT (hl : l.stackTraces = false) (hd : 1 ≤ d) (hs : zSt g) {bs : Nat → Nat} {L A w : Nat} (h : rz I bs L A none) (h8 : I 74 8 = nI w) (hw : w < 6) : zD l Xi mX13_opensOne d [.ref 74] I g (some (.int (nI 1))) (zup I 74 8 (nI (w + 1))) := by
  refine zC_of hl rfl rfl rfl (Nat.le_of_ble_eq_true rfl) (zav_r (zSt_ob hs 74 13 rfl).1 zav_0) ?_
  refine zJ_aload_n dX13_opensOne_0 rfl ?_
  refine zP_geti lf_X13_123 (zSt_ob hs 74 13 rfl) rfl dX13_opensOne_1 ?_
  refine zJ_if_ne 28 dX13_opensOne_4 (by decide) (fun c4 => absurd h.2.2.2.2.1 c4) (fun _ => ?_)
  refine zJ_aload_n dX13_opensOne_7 rfl ?_
  refine zP_geti lf_X13_166 (zSt_ob hs 74 13 rfl) rfl dX13_opensOne_8 ?_
  rw [h8]
  refine zJ_bipush (v := nI 6) dX13_opensOne_11 rfl ?_
  refine zJ_icmp_ne 28 dX13_opensOne_13 (by decide) (fun _ => ?_) (fun c13 => absurd c13 (fun z => by have := (nI_eq (by omega) (by omega)).mp z; omega))
  refine zJ_aload_n dX13_opensOne_28 rfl ?_
  refine zP_geti lf_X13_123 (zSt_ob hs 74 13 rfl) rfl dX13_opensOne_29 ?_
  refine zJ_if_ne 45 dX13_opensOne_32 (by decide) (fun c32 => absurd h.2.2.2.2.1 c32) (fun _ => ?_)
  refine zJ_aload_n dX13_opensOne_35 rfl ?_
  refine zJ_dup dX13_opensOne_36 rfl ?_
  refine zP_geti lf_X13_166 (zSt_ob hs 74 13 rfl) rfl dX13_opensOne_37 ?_
  rw [h8]
  refine zJ_iconst (v := nI 1) dX13_opensOne_40 rfl ?_
  refine zJ_iadd dX13_opensOne_41 ?_
  rw [nI_add]
  refine zP_puti lf_X13_166 (zSt_ob hs 74 13 rfl) rfl dX13_opensOne_42 ?_
  refine zJ_aload_n dX13_opensOne_45 rfl ?_
  refine zP_geti lf_X13_123 (zSt_ob hs 74 13 rfl) rfl dX13_opensOne_46 ?_
  rw [zup_same, upd_ne (by decide)]
  refine zJ_if_ne 56 dX13_opensOne_49 (by decide) (fun c49 => absurd h.2.2.2.2.1 c49) (fun _ => ?_)
  refine zJ_iconst (v := nI 1) dX13_opensOne_52 rfl ?_
  refine zJ_goto 57 dX13_opensOne_53 (by decide) ?_
  refine zJ_zret rfl (by decide) dX13_opensOne_57 ?_
  exact ⟨rfl, rfl⟩
theorem m_oneF (hl : l.stackTraces = false) (hd : 1 ≤ d) (hs : zSt g) (h : ¬ I 74 5 = 0) : zD l Xi mX13_one d [.ref 74] I g none I := by
  refine zC_of hl rfl rfl rfl (Nat.le_of_ble_eq_true rfl) (zav_r (zSt_ob hs 74 13 rfl).1 zav_0) ?_
  refine zJ_aload_n dX13_one_0 rfl ?_
  refine zP_geti lf_X13_123 (zSt_ob hs 74 13 rfl) rfl dX13_one_1 ?_
  refine zJ_if_eq 8 dX13_one_4 (by decide) (fun c4 => absurd c4 h) (fun _ => ?_)
  refine zJ_vret rfl dX13_one_7 ?_
  exact ⟨rfl, rfl⟩
theorem m_prodF (hl : l.stackTraces = false) (hd : 2 ≤ d) (hs : zSt g) (h : ¬ I 74 5 = 0) : zD l Xi mX13_product d [.ref 74] I g none I := by
  refine zC_of hl rfl rfl rfl (Nat.le_of_ble_eq_true rfl) (zav_r (zSt_ob hs 74 13 rfl).1 zav_0) ?_
  refine zJ_aload_n dX13_product_0 rfl ?_
  refine zP_callVv [] _ lv_X13_239 (m_oneF (d := d - 1) hl (by omega) hs h) (zSt_ob hs 74 13 rfl) rfl (by omega) (Nat.le_of_ble_eq_true rfl) rfl dX13_product_1 ?_
  refine zJ_aload_n dX13_product_4 rfl ?_
  refine zP_geti lf_X13_123 (zSt_ob hs 74 13 rfl) rfl dX13_product_5 ?_
  refine zJ_if_ne 72 dX13_product_8 (by decide) (fun _ => ?_) (fun c8 => absurd c8 h)
  refine zJ_vret rfl dX13_product_72 ?_
  exact ⟨rfl, rfl⟩
theorem m_sumF (hl : l.stackTraces = false) (hd : 3 ≤ d) (hs : zSt g) (h : ¬ I 74 5 = 0) : zD l Xi mX13_sum d [.ref 74] I g none I := by
  refine zC_of hl rfl rfl rfl (Nat.le_of_ble_eq_true rfl) (zav_r (zSt_ob hs 74 13 rfl).1 zav_0) ?_
  refine zJ_aload_n dX13_sum_0 rfl ?_
  refine zP_callVv [] _ lv_X13_230 (m_prodF (d := d - 1) hl (by omega) hs h) (zSt_ob hs 74 13 rfl) rfl (by omega) (Nat.le_of_ble_eq_true rfl) rfl dX13_sum_1 ?_
  refine zJ_aload_n dX13_sum_4 rfl ?_
  refine zP_geti lf_X13_123 (zSt_ob hs 74 13 rfl) rfl dX13_sum_5 ?_
  refine zJ_if_ne 58 dX13_sum_8 (by decide) (fun _ => ?_) (fun c8 => absurd c8 h)
  refine zJ_vret rfl dX13_sum_58 ?_
  exact ⟨rfl, rfl⟩
def cR (l : Launch) (Xi : zXi) (g : zG) (M : zM) (k m f : Nat) : Prop := ∀ (o d : Nat) (I : zI) (bs : Nat → Nat) (L A : Nat) (cs : List Int32), o ≤ 6 → 3 * (6 - o) + k ≤ d → L ≤ 150 → lR I bs L o (.inr (cs, A)) → cs.length ≤ A → pL bs L f m o A ≠ .inl (0, 0) → zEv l Xi M d [.ref 74] I g (fun J => fl3 I J ∧ lR J bs L o (pbind (pL bs L f m o A) fun c A => .inr (cs ++ c, A)))
theorem m_sumL (hl : l.stackTraces = false) (hs : zSt g) {f o : Nat} {bs : Nat → Nat} {L : Nat} {r : PR (List Int32)} (hS : cR l Xi g mX13_sum 10 0 f) (ho : o ≤ 6) (hd : 3 * (6 - o) + 10 ≤ d) (hL : L ≤ 150) (h : lR I bs L o r) (hlen : ∀ cs a, r = .inr (cs, a) → cs.length ≤ a) (hr : ∀ cs a, r = .inr (cs, a) → pL bs L f 0 o a ≠ .inl (0, 0)) : zEv l Xi mX13_sum d [.ref 74] I g (fun J => fl3 I J ∧ lR J bs L o (pbind r fun cs A => pbind (pL bs L f 0 o A) fun c A => .inr (cs ++ c, A))) := by
  cases r with
  | inl q =>
    refine zC_imp (m_sumF hl (by omega) hs (rP_isE (q := q) h)) (fun r' h' hp => ?_)
    exact ⟨hp.1, I, hp.2, fl3_rfl, rP_chg (q := q) h⟩
  | inr q => exact hS o d I bs L q.2 q.1 ho hd hL h (hlen _ _ rfl) (hr _ _ rfl)
end ZRefAM
