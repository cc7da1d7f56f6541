/-! ===== the reference: book ===== -/
section ZRefAL
variable {l : Launch} {Xi : zXi} {d : Nat} {I : zI} {g : zG}
/-- lines read so far -/
def rBk (I : zI) (bk : List (Nat × Nat)) : Prop := bk.length ≤ 8 ∧ ∀ i, i < bk.length → I (441 + 1 + i) 0 = nI (bkP bk i) ∧ I (441 + 1 + i) 1 = nI (bkW bk i) ∧ bkP bk i < 64 ∧ bkW bk i ≤ 6
theorem rBk_of {J : zI} {bk : List (Nat × Nat)} (h : rBk I bk) (e : ∀ a, 442 ≤ a → a ≤ 449 → J a = I a) : rBk J bk := ⟨h.1, fun i hi => by have := h.1; rw [e (441 + 1 + i) (by omega) (by omega)]; exact h.2 i hi⟩
theorem rBk_push {bk : List (Nat × Nat)} {p v : Nat} (h : rBk I bk) (hn : bk.length < 8) (hp : p < 64) (hv : v ≤ 6) : rBk (zup (zup I (441 + 1 + bk.length) 0 (nI p)) (441 + 1 + bk.length) 1 (nI v)) (bk ++ [(p, v)]) := by
  obtain ⟨h1, h2⟩ := h
  refine ⟨by rw [List.length_append, List.length_singleton]; omega, fun i hi => ?_⟩
  rw [List.length_append, List.length_singleton] at hi
  unfold bkP bkW
  by_cases z : i = bk.length
  · rw [z, List.getD_eq_getElem?_getD, List.getElem?_append_right (Nat.le_refl _), Nat.sub_self, zup_same, upd_ne (by decide), zup_same, upd_at, upd_at]
    exact ⟨rfl, rfl, hp, hv⟩
  · rw [List.getD_eq_getElem?_getD, List.getElem?_append_left (by omega), ← List.getD_eq_getElem?_getD, zup_row (by omega), zup_row (by omega)]
    exact h2 i (by omega)
theorem pBook_sk {bs : Nat → Nat} {L C R k A : Nat} {bk : List (Nat × Nat)} : pBook bs L C R (k + 1) bk (sk bs L A) = pBook bs L C R (k + 1) bk A := by
  have e : pLine bs L C R bk (sk bs L A) = pLine bs L C R bk A := by unfold pLine pLine0; rw [pNum_sk, sk_sk]
  simp only [pBook]
  rw [sk_sk, e]
def rbkQ (S : sT) (L : Nat) (I : zI) (v : Int32) (J : zI) : Prop := J 74 0 = nI 0 ∧ rO I J ∧ match pBook S.1.2.1 L (bC S.2.1) (bR S.2.1) 9 [] 0 with
  | .inl q => v = errV q ∧ rI J (fltS S q.2)
  | .inr q => v = nI q.1.length ∧ rI J (bkS S q.1)
set_option maxHeartbeats 2000000 in
theorem m_book (hl : l.stackTraces = false) (hd : 12 ≤ d) (hs : zSt g) {S : sT} (hI : rI I S) {L : Nat} (hL : L ≤ S.1.1) (hL2 : L ≤ 60) : zEi l Xi mX13_book d [.ref 74, .int (nI L)] I g (rbkQ S L I) := by
  refine zC_of hl rfl rfl rfl (Nat.le_of_ble_eq_true rfl) (zav_r (zSt_ob hs 74 13 rfl).1 (zav_i zav_0)) ?_
  have hI0 := rI_rQ hI (rQ_thr (x := nI 0))
  have h600 := hI.1.2.1
  have htp : (zup I 74 0 (nI 0)) 74 1 = nI S.1.1 := hI0.1.1
  have hbd := hI.2.2.1.1
  have hC8 := hbd.2.1
  have hR8 := hbd.2.2.2.1
  obtain ⟨bs, hbs⟩ : ∃ bs, S.1.2.1 = bs := ⟨_, rfl⟩
  obtain ⟨C, hC⟩ : ∃ C, bC S.2.1 = C := ⟨_, rfl⟩
  obtain ⟨W, hW⟩ : ∃ W, bR S.2.1 = W := ⟨_, rfl⟩
  rw [hC] at hC8
  rw [hW] at hR8
  obtain ⟨R, hR⟩ : ∃ R, pBook bs L C W 9 [] 0 = R := ⟨_, rfl⟩
  obtain ⟨P, hP⟩ : ∃ P : zR → zH → Prop, P = (fun r' h' => ∃ v J, r' = .inl (some (.int v)) ∧ h' = (J, g) ∧ rbkQ S L I v J) := ⟨_, rfl⟩
  obtain ⟨E, hE⟩ : ∃ E : zI → Prop, E = fun J => (∀ a, a ≠ 74 → (a < 442 ∨ 449 < a) → J a = I a) ∧ (∀ k, k ≠ 0 → k ≠ 1 → k ≠ 2 → k ≠ 4 → k ≠ 5 → k ≠ 6 → k ≠ 7 → k ≠ 8 → J 74 k = I 74 k) ∧ J 74 0 = nI 0 ∧ J 74 1 = nI 0 := ⟨_, rfl⟩
  have Eft : ∀ {J K : zI}, E J → ft J K → E K := by
    intro J K h1 h2
    rw [hE] at h1 ⊢
    exact ⟨fun a q1 q2 => (h2.1 a q1).trans (h1.1 a q1 q2), fun k q0 q1 q2 q4 q5 q6 q7 q8 => (h2.2 k q4 q5 q6).trans (h1.2.1 k q0 q1 q2 q4 q5 q6 q7 q8), (h2.2 0 (by decide) (by decide) (by decide)).trans h1.2.2.1, (h2.2 1 (by decide) (by decide) (by decide)).trans h1.2.2.2⟩
  have told : ∀ {J : zI}, E J → J 78 0 = nI C ∧ J 78 1 = nI W := by
    intro J h1
    rw [hE] at h1
    rw [h1.1 78 (by decide) (by decide), ← hC, ← hW]
    exact ⟨hI.2.2.1.2.1.1, hI.2.2.1.2.1.2.1⟩
  have ne0 : ∀ {J : zI} {A : Nat} {q : Nat × Nat}, rz J bs L A (some q) → ¬ J 74 5 = 0 := by
    intro J A q hz
    have hq := hz.2.2.2.2.2.2.1 q rfl
    rw [hz.2.2.2.2.1]; exact nI_ne0 (by show 0 < q.1; omega) (by show q.1 < _; omega)
  have bad : ∀ (J : zI) (A m : Nat) (q : Nat × Nat), E J → rz J bs L A (some q) → R = .inl q → zJ l Xi mX13_book d 0 0 46 [some (.ref 74), some (.int (nI L)), some (.int (nI m)), none, none, none, none, none] [] (J, g) P := by
    intro J A m q e hz hRq
    rw [hE] at e
    rw [hP]
    refine zJ_aload_n dX13_book_46 rfl ?_
    refine zP_geti lf_X13_123 (zSt_ob hs 74 13 rfl) rfl dX13_book_47 ?_
    refine zJ_if_ne 239 dX13_book_50 (by decide) (fun _ => ?_) (fun c50 => absurd c50 (ne0 hz))
    refine zJ_aload_n dX13_book_239 rfl ?_
    refine zP_geti lf_X13_123 (zSt_ob hs 74 13 rfl) rfl dX13_book_240 ?_
    refine zJ_if_eq 251 dX13_book_243 (by decide) (fun c243 => absurd c243 (ne0 hz)) (fun _ => ?_)
    refine zJ_aload_n dX13_book_246 rfl ?_
    refine zP_callVi [] _ lv_X13_196 (m_ends (d := d - 1) hl (by omega) hs hz) (zSt_ob hs 74 13 rfl) rfl (by omega) (Nat.le_of_ble_eq_true rfl) rfl dX13_book_247 ?_
    refine zJ_iret rfl dX13_book_250 ?_
    refine ⟨_, _, rfl, rfl, by rw [zup_same, upd_ne (by decide)]; exact e.2.2.1, fun a ha => by rw [zup_row (by omega)]; exact e.1 a (by omega) (by omega), ?_⟩
    rw [hbs, hC, hW, hR, hRq]
    refine ⟨rfl, ?_⟩
    unfold fltS
    exact rI_txt hI (fun a ha => by rw [zup_row (by omega)]; exact e.1 a (by omega) (by omega)) (fun k hk => by rw [zup_same, upd_ne (by omega)]; exact e.2.1 k (by omega) (by omega) (by omega) (by omega) (by omega) (by omega) (by omega) (by omega)) (by rw [zup_same, upd_ne (by decide)]; exact e.2.2.2) (by rw [zup_same, upd_at])
  have flt : ∀ (J : zI) (A m : Nat) (q : Nat × Nat), E J → rz J bs L A (some q) → R = .inl q → zJ l Xi mX13_book d 0 0 181 [some (.ref 74), some (.int (nI L)), some (.int (nI m)), none, none, none, none, none] [] (J, g) P := by
    intro J A m q e hz hRq
    have hp : rP J bs L (.inl q : PR Unit) (fun _ => True) := rP_er hz
    refine zJ_aload_n dX13_book_181 rfl ?_
    refine zJ_iconst (v := nI 0) dX13_book_182 rfl ?_
    refine zJ_bipush (v := nI 6) dX13_book_183 rfl ?_
    refine zP_callVi [_, _] _ lv_X13_169 (m_number1 (d := d - 1) hl (by omega) hs hz) (zSt_ob hs 74 13 rfl) rfl (by omega) (Nat.le_of_ble_eq_true rfl) rfl dX13_book_185 ?_
    refine zJ_istore dX13_book_188 (Nat.le_of_ble_eq_true rfl) (by decide) ?_
    refine zJ_aload_n dX13_book_190 rfl ?_
    refine zJ_bipush (v := nI 59) dX13_book_191 rfl ?_
    refine zP_ecallVv [_] _ lv_X13_176 (m_signP (d := d - 1) hl (by omega) hs hp (by omega)) (zSt_ob hs 74 13 rfl) rfl (by omega) (Nat.le_of_ble_eq_true rfl) rfl dX13_book_193 (fun J2 h2 => ?_)
    refine zJ_aload_n dX13_book_196 rfl ?_
    refine zP_geti lf_X13_123 (zSt_ob hs 74 13 rfl) rfl dX13_book_197 ?_
    refine zJ_if_ne 232 dX13_book_200 (by decide) (fun _ => ?_) (fun c200 => absurd c200 (rP_isE (q := q) h2.2))
    obtain ⟨f2, A2, hz2, -⟩ := h2
    refine zJ_aload_n dX13_book_232 rfl ?_
    refine zP_ecallVv [] _ lv_X13_129 (m_blanks (d := d - 1) hl (by omega) hs hz2) (zSt_ob hs 74 13 rfl) rfl (by omega) (Nat.le_of_ble_eq_true rfl) rfl dX13_book_233 (fun J3 h3 => ?_)
    refine zJ_goto 46 dX13_book_236 (by decide) ?_
    exact zJ_back (zle_r (zle_r (zle_r (zle_n (zle_n (zle_n (zle_n (zle_n zle_0)))))))) rfl (bad J3 _ m q (Eft (Eft e f2) h3.1) h3.2 hRq)
  have dupE : ∀ (J : zI) (A m k : Nat) (q : Nat × Nat) (x y z w : Int32), m ≤ 8 → k ≤ 9 → E J → rz J bs L A (some q) → R = .inl q → zJ l Xi mX13_book d 0 0 135 [some (.ref 74), some (.int (nI L)), some (.int (nI m)), some (.int x), some (.int y), some (.int z), some (.int w), some (.int (nI k))] [] (J, g) P := by
    intro J A m k q x y z w hm hk e hz hRq
    refine zJ_iload dX13_book_135 rfl ?_
    refine zJ_iload_n dX13_book_137 rfl ?_
    refine zJ_icmp_ge 181 dX13_book_138 (by decide) (fun c138 => ?_) (fun c138 => ?_)
    · skip
      exact zJ_back (zle_r (zle_r (zle_r (zle_n (zle_n (zle_n (zle_n (zle_n zle_0)))))))) rfl (flt J A m q e hz hRq)
    · skip
      refine zJ_aload_n dX13_book_141 rfl ?_
      refine zP_geti lf_X13_123 (zSt_ob hs 74 13 rfl) rfl dX13_book_142 ?_
      refine zJ_if_ne 181 dX13_book_145 (by decide) (fun _ => ?_) (fun c145 => absurd c145 (ne0 hz))
      exact zJ_back (zle_r (zle_r (zle_r (zle_n (zle_n (zle_n (zle_n (zle_n zle_0)))))))) rfl (flt J A m q e hz hRq)
  have flt0 : ∀ (J : zI) (A m : Nat) (q : Nat × Nat) (x y : Int32), m ≤ 8 → E J → rz J bs L A (some q) → R = .inl q → zJ l Xi mX13_book d 0 0 107 [some (.ref 74), some (.int (nI L)), some (.int (nI m)), some (.int x), some (.int y), none, none, none] [] (J, g) P := by
    intro J A m q x y hm e hz hRq
    refine zJ_aload_n dX13_book_107 rfl ?_
    refine zP_ecallVv [] _ lv_X13_129 (m_blanks (d := d - 1) hl (by omega) hs hz) (zSt_ob hs 74 13 rfl) rfl (by omega) (Nat.le_of_ble_eq_true rfl) rfl dX13_book_108 (fun J1 h1 => ?_)
    refine zJ_aload_n dX13_book_111 rfl ?_
    refine zP_geti lf_X13_116 (zSt_ob hs 74 13 rfl) rfl dX13_book_112 ?_
    refine zJ_istore dX13_book_115 (Nat.le_of_ble_eq_true rfl) (by decide) ?_
    refine zJ_aload_n dX13_book_117 rfl ?_
    refine zJ_iconst (v := nI 0) dX13_book_118 rfl ?_
    refine zJ_aload_n dX13_book_119 rfl ?_
    refine zP_getr lf_X13_23 (zSt_ob hs 74 13 rfl) rfl (zSt_rf hs 74 12 78 rfl) dX13_book_120 ?_
    refine zJ_iconst (v := nI 1) dX13_book_123 rfl ?_
    refine zP_iald (zSt_ar hs 78 4 rfl) (by first | assumption | with_reducible exact vp_in_nI (by omega) (by omega) | (simp (disch := omega) only [nI_add, pk_mul, pk_sub, pk_div, pk_rem, nI_clamp]; with_reducible exact vp_in_nI (by omega) (by omega))) dX13_book_124 ?_
    refine zJ_iconst (v := nI 1) dX13_book_125 rfl ?_
    refine zJ_isub dX13_book_126 ?_
    refine zP_callVi [_, _] _ lv_X13_169 (m_number1 (d := d - 1) hl (by omega) hs h1.2) (zSt_ob hs 74 13 rfl) rfl (by omega) (Nat.le_of_ble_eq_true rfl) rfl dX13_book_127 ?_
    refine zJ_istore dX13_book_130 (Nat.le_of_ble_eq_true rfl) (by decide) ?_
    refine zJ_iconst (v := nI 0) dX13_book_132 rfl ?_
    refine zJ_istore dX13_book_133 (Nat.le_of_ble_eq_true rfl) (by decide) ?_
    exact zJ_back (zle_r (zle_r (zle_r (zle_r (zle_r (zle_r (zle_r (zle_r zle_0)))))))) rfl (dupE J1 _ m 0 q _ _ _ _ hm (by omega) (Eft e h1.1) h1.2 hRq)
  have good : ∀ (J : zI) (A : Nat) (bk : List (Nat × Nat)), E J → rz J bs L A none → L ≤ A → rBk J bk → R = .inr (bk, A) → zJ l Xi mX13_book d 0 0 46 [some (.ref 74), some (.int (nI L)), some (.int (nI bk.length)), none, none, none, none, none] [] (J, g) P := by
    intro J A bk e hz hLA hbk hRr
    rw [hE] at e
    have hAL := hz.2.2.2.1
    rw [hP]
    refine zJ_aload_n dX13_book_46 rfl ?_
    refine zP_geti lf_X13_123 (zSt_ob hs 74 13 rfl) rfl dX13_book_47 ?_
    refine zJ_if_ne 239 dX13_book_50 (by decide) (fun c50 => absurd hz.2.2.2.2.1 c50) (fun _ => ?_)
    refine zJ_aload_n dX13_book_53 rfl ?_
    refine zP_geti lf_X13_116 (zSt_ob hs 74 13 rfl) rfl dX13_book_54 ?_
    refine zJ_aload_n dX13_book_57 rfl ?_
    refine zP_geti lf_X13_113 (zSt_ob hs 74 13 rfl) rfl dX13_book_58 ?_
    rw [hz.2.2.1, hz.1]
    refine zJ_icmp_ge 239 dX13_book_61 (by decide) (fun _ => ?_) (fun c61 => absurd (nI_le (by omega) (by omega)) c61)
    refine zJ_aload_n dX13_book_239 rfl ?_
    refine zP_geti lf_X13_123 (zSt_ob hs 74 13 rfl) rfl dX13_book_240 ?_
    refine zJ_if_eq 251 dX13_book_243 (by decide) (fun _ => ?_) (fun c243 => absurd hz.2.2.2.2.1 c243)
    refine zJ_aload_n dX13_book_251 rfl ?_
    refine zJ_iconst (v := -1) dX13_book_252 rfl ?_
    refine zP_puti lf_X13_9 (zSt_ob hs 74 13 rfl) rfl dX13_book_253 ?_
    refine zJ_aload_n dX13_book_256 rfl ?_
    refine zJ_iload_n dX13_book_257 rfl ?_
    refine zP_puti lf_X13_215 (zSt_ob hs 74 13 rfl) rfl dX13_book_258 ?_
    refine zJ_aload_n dX13_book_261 rfl ?_
    refine zP_getr lf_X13_58 (zSt_ob hs 74 13 rfl) rfl (zSt_rf hs 74 25 441 rfl) dX13_book_262 ?_
    refine zJ_aload_n dX13_book_265 rfl ?_
    refine zP_getr lf_X13_55 (zSt_ob hs 74 13 rfl) rfl (zSt_rf hs 74 24 432 rfl) dX13_book_266 ?_
    refine zJ_iload_n dX13_book_269 rfl ?_
    refine zP_ecallSv [_, _, _] _ ls_X13_255 (m_laysLine (d := d - 1) hl (by omega) hs hbk.1) rfl (by omega) (Nat.le_of_ble_eq_true rfl) rfl dX13_book_270 (fun K hK => ?_)
    refine zJ_iload_n dX13_book_273 rfl ?_
    refine zJ_iret rfl dX13_book_274 ?_
    obtain ⟨k1, k2⟩ := hK
    have eK : ∀ a, a ≠ 74 → (a < 433 ∨ 440 < a) → K a = J a := fun a q1 q2 => by rw [k1 a (by omega), zup_row q1, zup_row q1]
    have fK : ∀ k, k ≠ 3 → k ≠ 35 → K 74 k = J 74 k := fun k q1 q2 => by rw [k1 74 (by decide), zup_same, upd_ne q2, zup_same, upd_ne q1]
    have k3 : K 74 3 = -1 := by rw [k1 74 (by decide), zup_same, upd_ne (by decide), zup_same, upd_at]
    have k35 : K 74 35 = nI bk.length := by rw [k1 74 (by decide), zup_same, upd_at]
    refine ⟨_, K, rfl, rfl, by rw [fK 0 (by decide) (by decide)]; exact e.2.2.1, fun a ha => by rw [eK a (by omega) (by omega)]; exact e.1 a (by omega) (by omega), ?_⟩
    rw [hbs, hC, hW, hR, hRr]
    refine ⟨rfl, ?_⟩
    unfold bkS
    rw [hbs]
    obtain ⟨i1, i2, i3, i4, i5, i6, i7, i8, i9, i10⟩ := hI
    have eI : ∀ a, a ≠ 74 → (a < 433 ∨ 440 < a) → (a < 442 ∨ 449 < a) → K a = I a := fun a q1 q2 q3 => by rw [eK a q1 q2, e.1 a q1 q3]
    have fI : ∀ k, k = 20 ∨ k = 36 ∨ k = 37 ∨ k = 38 → K 74 k = I 74 k := fun k hk => by rw [fK k (by omega) (by omega), e.2.1 k (by omega) (by omega) (by omega) (by omega) (by omega) (by omega) (by omega) (by omega)]
    refine ⟨⟨by rw [fK 1 (by decide) (by decide)]; exact e.2.2.2, Nat.zero_le _, fun k hk => absurd hk (Nat.not_lt_zero _)⟩, k3, rB_of i3 (fI 20 (by decide)) (fun a ha => eI a (by omega) (by omega) (by omega)), rRow_of i4 (eI 533 (by decide) (by decide) (by decide)), ⟨k35, hbk.1, fun i hi => ?_⟩, rWs_of i6 (fI 36 (by decide)) (fun a q1 q2 => eI a (by omega) (by omega) (by omega)), rIm_of i7 (fI 38 (by decide)) (fun a q1 q2 => eI a (by omega) (by omega) (by omega)), by rw [fI 37 (by decide)]; exact i8, by rw [eI 76 (by decide) (by decide) (by decide)]; exact i9, by rw [eI 76 (by decide) (by decide) (by decide)]; exact i10⟩
    have hi2 : i < bk.length := hi
    have hb := hbk.2 i hi2
    have hb8 := hbk.1
    rw [k2 i 0 hi2 (by decide), k2 i 1 hi2 (by decide), zup_row (by omega), zup_row (by omega)]
    exact hb
  have fin : ∀ (J : zI) (A x y z : Nat) (bk : List (Nat × Nat)) (o1 o2 o3 : Int32) (k : Nat), E J → rz J bs L A none → rBk J bk → bk.length < 8 → x < C → y < W → (∀ r' : PR (Nat × Nat), (pbind (pNum bs L 0 7 A) fun v A => pbind (pSign bs L 59 A) fun _ A => .inr ((y * 8 + x, v), A)) = r' → (∀ q, r' = .inl q → R = .inl q) ∧ (∀ q A' (K : zI), r' = .inr (q, A') → E K → rz K bs L (sk bs L A') none → rBk K (bk ++ [q]) → zJ l Xi mX13_book d 0 0 46 [some (.ref 74), some (.int (nI L)), some (.int (nI (bk.length + 1))), none, none, none, none, none] [] (K, g) P)) → zJ l Xi mX13_book d 0 0 181 [some (.ref 74), some (.int (nI L)), some (.int (nI bk.length)), some (.int o1), some (.int (nI x)), some (.int o2), some (.int (nI y)), some (.int o3)] [] (J, g) P := by
    intro J A x y z bk o1 o2 o3 k e hz hbk hb8 hx hy hgo
    have hp : rP J bs L (.inr (y * 8 + x, A) : PR Nat) (fun p => p = y * 8 + x) := rP_mk hz rfl
    refine zJ_aload_n dX13_book_181 rfl ?_
    refine zJ_iconst (v := nI 0) dX13_book_182 rfl ?_
    refine zJ_bipush (v := nI 6) dX13_book_183 rfl ?_
    refine zP_ecallVi [_, _] _ lv_X13_169 (m_numP (lo := 0) (hi := 7) (d := d - 1) hl (by omega) hs hp (by omega) (by omega) rfl (show nI 6 = nI 7 - nI 1 by decide)) (zSt_ob hs 74 13 rfl) rfl (by omega) (Nat.le_of_ble_eq_true rfl) rfl dX13_book_185 (fun v J1 h1 => ?_)
    refine zJ_istore dX13_book_188 (Nat.le_of_ble_eq_true rfl) (by decide) ?_
    refine zJ_aload_n dX13_book_190 rfl ?_
    refine zJ_bipush (v := nI 59) dX13_book_191 rfl ?_
    refine zP_ecallVv [_] _ lv_X13_176 (m_signP (d := d - 1) hl (by omega) hs h1.2 (by omega)) (zSt_ob hs 74 13 rfl) rfl (by omega) (Nat.le_of_ble_eq_true rfl) rfl dX13_book_193 (fun J2 h2 => ?_)
    have f2 := ft_trans h1.1 h2.1
    have e2 := Eft e f2
    have p2 := h2.2
    obtain ⟨R2, hR2⟩ : ∃ R2, (pbind (pbind (.inr (y * 8 + x, A) : PR Nat) fun y A => pbind (pNum bs L 0 7 A) fun v A => (.inr ((y, v), A) : PR (Nat × Nat))) fun x A => pbind (pSign bs L 59 A) fun _ A => (.inr (x, A) : PR (Nat × Nat))) = R2 := ⟨_, rfl⟩
    rw [hR2] at p2
    have hgo2 := hgo R2 (by rw [← hR2]; simp only [pbind_assoc, pbind_inr])
    cases R2 with
    | inl q =>
      have hRq := hgo2.1 q rfl
      obtain ⟨A2, hz2, -⟩ := p2
      refine zJ_aload_n dX13_book_196 rfl ?_
      refine zP_geti lf_X13_123 (zSt_ob hs 74 13 rfl) rfl dX13_book_197 ?_
      refine zJ_if_ne 232 dX13_book_200 (by decide) (fun _ => ?_) (fun c200 => absurd c200 (ne0 hz2))
      refine zJ_aload_n dX13_book_232 rfl ?_
      refine zP_ecallVv [] _ lv_X13_129 (m_blanks (d := d - 1) hl (by omega) hs hz2) (zSt_ob hs 74 13 rfl) rfl (by omega) (Nat.le_of_ble_eq_true rfl) rfl dX13_book_233 (fun J3 h3 => ?_)
      refine zJ_goto 46 dX13_book_236 (by decide) ?_
      exact zJ_back (zle_r (zle_r (zle_r (zle_n (zle_n (zle_n (zle_n (zle_n zle_0)))))))) rfl (bad J3 _ _ q (Eft e2 h3.1) h3.2 hRq)
    | inr q =>
      obtain ⟨q, A2⟩ := q
      obtain ⟨hz2, hq1, hq2, -, hq3⟩ := rP_ok p2
      have hbk2 := rBk_of hbk (fun a q1 q2 => f2.1 a (by omega))
      have hpush := rBk_push (p := y * 8 + x) (v := q.2) hbk2 hb8 (by omega) (by omega)
      have hz3 : rz (zup (zup J2 (441 + 1 + bk.length) 0 (nI (y * 8 + x))) (441 + 1 + bk.length) 1 (nI q.2)) bs L A2 none := rz_of hz2 (fun k _ => by rw [zup_row (by omega), zup_row (by omega)]) (by rw [zup_row (by omega), zup_row (by omega)])
      rw [hq2]
      refine zJ_aload_n dX13_book_196 rfl ?_
      refine zP_geti lf_X13_123 (zSt_ob hs 74 13 rfl) rfl dX13_book_197 ?_
      refine zJ_if_ne 232 dX13_book_200 (by decide) (fun c200 => absurd hz2.2.2.2.2.1 c200) (fun _ => ?_)
      refine zJ_aload_n dX13_book_203 rfl ?_
      refine zP_getr lf_X13_58 (zSt_ob hs 74 13 rfl) rfl (zSt_rf hs 74 25 441 rfl) dX13_book_204 ?_
      refine zJ_iload_n dX13_book_207 rfl ?_
      refine zP_rowK (k := bk.length) (zSt_g441 hs) (by omega) (by decide) dX13_book_208 ?_
      refine zJ_iconst (v := nI 0) dX13_book_209 rfl ?_
      refine zJ_bipush (v := nI 8) dX13_book_210 rfl ?_
      refine zJ_iload dX13_book_212 rfl ?_
      refine zJ_imul dX13_book_214 ?_
      refine zJ_iload dX13_book_215 rfl ?_
      refine zJ_iadd dX13_book_217 ?_
      rw [pk_mul, nI_add, Nat.mul_comm]
      refine zP_iast (zGr_ar (zSt_g441 hs) (i := bk.length) (by omega)) (by first | assumption | with_reducible exact vp_in_nI (by omega) (by omega) | (simp (disch := omega) only [nI_add, pk_mul, pk_sub, pk_div, pk_rem, nI_clamp]; with_reducible exact vp_in_nI (by omega) (by omega))) dX13_book_218 ?_
      refine zJ_aload_n dX13_book_219 rfl ?_
      refine zP_getr lf_X13_58 (zSt_ob hs 74 13 rfl) rfl (zSt_rf hs 74 25 441 rfl) dX13_book_220 ?_
      refine zJ_iload_n dX13_book_223 rfl ?_
      refine zP_rowK (k := bk.length) (zSt_g441 hs) (by omega) (by decide) dX13_book_224 ?_
      refine zJ_iconst (v := nI 1) dX13_book_225 rfl ?_
      refine zJ_iload dX13_book_226 rfl ?_
      refine zP_iast (zGr_ar (zSt_g441 hs) (i := bk.length) (by omega)) (by first | assumption | with_reducible exact vp_in_nI (by omega) (by omega) | (simp (disch := omega) only [nI_add, pk_mul, pk_sub, pk_div, pk_rem, nI_clamp]; with_reducible exact vp_in_nI (by omega) (by omega))) dX13_book_228 ?_
      rw [nI_clamp (by omega), nI_clamp (by omega)]
      refine zJ_iinc1 dX13_book_229 rfl (by decide) ?_
      refine zJ_aload_n dX13_book_232 rfl ?_
      refine zP_ecallVv [] _ lv_X13_129 (m_blanks (d := d - 1) hl (by omega) hs hz3) (zSt_ob hs 74 13 rfl) rfl (by omega) (Nat.le_of_ble_eq_true rfl) rfl dX13_book_233 (fun J3 h3 => ?_)
      refine zJ_goto 46 dX13_book_236 (by decide) ?_
      have e3 : E J3 := by
        refine Eft ?_ h3.1
        rw [hE] at e2 ⊢
        exact ⟨fun a q1 q2 => by rw [zup_row (by omega), zup_row (by omega)]; exact e2.1 a q1 q2, fun k q0 q1 q2 q4 q5 q6 q7 q8 => by rw [zup_row (by omega), zup_row (by omega)]; exact e2.2.1 k q0 q1 q2 q4 q5 q6 q7 q8, by rw [zup_row (by omega), zup_row (by omega)]; exact e2.2.2.1, by rw [zup_row (by omega), zup_row (by omega)]; exact e2.2.2.2⟩
      have hq : q = (y * 8 + x, q.2) := by rw [← hq1]
      refine zJ_back (zle_r (zle_r (zle_r (zle_n (zle_n (zle_n (zle_n (zle_n zle_0)))))))) rfl (hgo2.2 q A2 J3 rfl e3 h3.2 ?_)
      rw [hq]
      exact rBk_of hpush (fun a q1 q2 => h3.1.1 a (by omega))
  have step : ∀ (J : zI) (B : Nat) (bk : List (Nat × Nat)), E J → rz J bs L B none → sk bs L B = B → B < L → rBk J bk → (∀ q, pLine bs L C W bk B = .inl q → R = .inl q) → (∀ q A' (K : zI), pLine bs L C W bk B = .inr (q, A') → E K → rz K bs L (sk bs L A') none → rBk K (bk ++ [q]) → zJ l Xi mX13_book d 0 0 46 [some (.ref 74), some (.int (nI L)), some (.int (nI (bk.length + 1))), none, none, none, none, none] [] (K, g) P) → zJ l Xi mX13_book d 0 0 46 [some (.ref 74), some (.int (nI L)), some (.int (nI bk.length)), none, none, none, none, none] [] (J, g) P := by
    intro J B bk e hz hB hBL hbk hbad hgo
    have hb8 := hbk.1
    have hpl : ∀ (r0 : PR Nat), pLine0 bs L C W bk B = r0 → pLine bs L C W bk B = pbind r0 fun p A => pbind (pNum bs L 0 7 A) fun v A => pbind (pSign bs L 59 A) fun _ A => .inr ((p, v), A) := fun r0 h0 => by unfold pLine; rw [h0]
    have hp0 : pLine0 bs L C W bk B = pbind (pNum bs L 0 C B) fun x A1 => if 8 ≤ bk.length then .inl (3, B) else pbind (pNum bs L 0 W A1) fun y A2 => if bkA bk (y * 8 + x) then .inl (2, sk bs L A1) else .inr (y * 8 + x, A2) := by unfold pLine0; rw [hB]
    refine zJ_aload_n dX13_book_46 rfl ?_
    refine zP_geti lf_X13_123 (zSt_ob hs 74 13 rfl) rfl dX13_book_47 ?_
    refine zJ_if_ne 239 dX13_book_50 (by decide) (fun c50 => absurd hz.2.2.2.2.1 c50) (fun _ => ?_)
    refine zJ_aload_n dX13_book_53 rfl ?_
    refine zP_geti lf_X13_116 (zSt_ob hs 74 13 rfl) rfl dX13_book_54 ?_
    refine zJ_aload_n dX13_book_57 rfl ?_
    refine zP_geti lf_X13_113 (zSt_ob hs 74 13 rfl) rfl dX13_book_58 ?_
    rw [hz.2.2.1, hz.1]
    refine zJ_icmp_ge 239 dX13_book_61 (by decide) (fun c61 => absurd c61 (nI_ge (by omega) (by omega))) (fun _ => ?_)
    refine zJ_aload_n dX13_book_64 rfl ?_
    refine zP_ecallVv [] _ lv_X13_129 (m_blanks (d := d - 1) hl (by omega) hs hz) (zSt_ob hs 74 13 rfl) rfl (by omega) (Nat.le_of_ble_eq_true rfl) rfl dX13_book_65 (fun J1 h1 => ?_)
    obtain ⟨f1, z1⟩ := h1
    rw [hB] at z1
    have e1 := Eft e f1
    refine zJ_aload_n dX13_book_68 rfl ?_
    refine zP_geti lf_X13_116 (zSt_ob hs 74 13 rfl) rfl dX13_book_69 ?_
    rw [z1.2.2.1]
    refine zJ_istore_m 3 dX13_book_72 rfl (Nat.le_of_ble_eq_true rfl) (by decide) ?_
    refine zJ_aload_n dX13_book_73 rfl ?_
    refine zJ_iconst (v := nI 0) dX13_book_74 rfl ?_
    refine zJ_aload_n dX13_book_75 rfl ?_
    refine zP_getr lf_X13_23 (zSt_ob hs 74 13 rfl) rfl (zSt_rf hs 74 12 78 rfl) dX13_book_76 ?_
    refine zJ_iconst (v := nI 0) dX13_book_79 rfl ?_
    refine zP_iald (zSt_ar hs 78 4 rfl) (by first | assumption | with_reducible exact vp_in_nI (by omega) (by omega) | (simp (disch := omega) only [nI_add, pk_mul, pk_sub, pk_div, pk_rem, nI_clamp]; with_reducible exact vp_in_nI (by omega) (by omega))) dX13_book_80 ?_
    rw [nI_clamp (by omega), (told e1).1]
    refine zJ_iconst (v := nI 1) dX13_book_81 rfl ?_
    refine zJ_isub dX13_book_82 ?_
    refine zP_ecallVi [_, _] _ lv_X13_169 (m_number0 (lo := 0) (hi := C) (d := d - 1) hl (by omega) hs z1 (by omega) (by omega) rfl rfl) (zSt_ob hs 74 13 rfl) rfl (by omega) (Nat.le_of_ble_eq_true rfl) rfl dX13_book_83 (fun xv J2 h2 => ?_)
    refine zJ_istore dX13_book_86 (Nat.le_of_ble_eq_true rfl) (by decide) ?_
    obtain ⟨f2, p2⟩ := h2
    have e2 := Eft e1 f2
    cases hx : pNum bs L 0 C B with
    | inl q =>
      rw [hx] at p2 hp0
      have hR2 := hbad q (by rw [hpl _ hp0]; rfl)
      obtain ⟨A2, z2, -⟩ := p2
      refine zJ_aload_n dX13_book_88 rfl ?_
      refine zP_geti lf_X13_123 (zSt_ob hs 74 13 rfl) rfl dX13_book_89 ?_
      refine zJ_if_ne 107 dX13_book_92 (by decide) (fun _ => ?_) (fun c92 => absurd c92 (ne0 z2))
      exact zJ_back (zle_r (zle_r (zle_r (zle_r (zle_r (zle_n (zle_n (zle_n zle_0)))))))) rfl (flt0 J2 _ _ q _ _ hb8 e2 z2 hR2)
    | inr qx =>
      obtain ⟨x, A1⟩ := qx
      rw [hx] at p2 hp0
      obtain ⟨z2, hxv, -, hxC⟩ := rP_ok p2
      subst hxv
      rw [pbind_inr] at hp0
      by_cases h8 : 8 ≤ bk.length
      · rw [if_pos h8] at hp0
        have hR2 := hbad (3, B) (by rw [hpl _ hp0]; rfl)
        refine zJ_aload_n dX13_book_88 rfl ?_
        refine zP_geti lf_X13_123 (zSt_ob hs 74 13 rfl) rfl dX13_book_89 ?_
        refine zJ_if_ne 107 dX13_book_92 (by decide) (fun c92 => absurd z2.2.2.2.2.1 c92) (fun _ => ?_)
        refine zJ_iload_n dX13_book_95 rfl ?_
        refine zJ_bipush (v := nI 8) dX13_book_96 rfl ?_
        refine zJ_icmp_ne 107 dX13_book_98 (by decide) (fun c98 => absurd (by rw [show bk.length = 8 by omega]) c98) (fun _ => ?_)
        refine zJ_aload_n dX13_book_101 rfl ?_
        refine zJ_iconst (v := nI 3) dX13_book_102 rfl ?_
        refine zJ_iload_n dX13_book_103 rfl ?_
        refine zP_ecallVv [_, _] _ lv_X13_136 (m_wrong (d := d - 1) hl (by omega) hs z2 (by omega) (by omega) rfl) (zSt_ob hs 74 13 rfl) rfl (by omega) (Nat.le_of_ble_eq_true rfl) rfl dX13_book_104 (fun J3 h3 => ?_)
        exact zJ_back (zle_r (zle_r (zle_r (zle_r (zle_r (zle_n (zle_n (zle_n zle_0)))))))) rfl (flt0 J3 _ _ (3, B) _ _ hb8 (Eft e2 h3.1) h3.2 hR2)
      · rw [if_neg h8] at hp0
        refine zJ_aload_n dX13_book_88 rfl ?_
        refine zP_geti lf_X13_123 (zSt_ob hs 74 13 rfl) rfl dX13_book_89 ?_
        refine zJ_if_ne 107 dX13_book_92 (by decide) (fun c92 => absurd z2.2.2.2.2.1 c92) (fun _ => ?_)
        refine zJ_iload_n dX13_book_95 rfl ?_
        refine zJ_bipush (v := nI 8) dX13_book_96 rfl ?_
        refine zJ_icmp_ne 107 dX13_book_98 (by decide) (fun _ => ?_) (fun c98 => absurd c98 (fun z => h8 (by have := (nI_eq (by omega) (by omega)).mp z; omega)))
        refine zJ_aload_n dX13_book_107 rfl ?_
        refine zP_ecallVv [] _ lv_X13_129 (m_blanks (d := d - 1) hl (by omega) hs z2) (zSt_ob hs 74 13 rfl) rfl (by omega) (Nat.le_of_ble_eq_true rfl) rfl dX13_book_108 (fun J3 h3 => ?_)
        obtain ⟨f3, z3⟩ := h3
        have e3 := Eft e2 f3
        refine zJ_aload_n dX13_book_111 rfl ?_
        refine zP_geti lf_X13_116 (zSt_ob hs 74 13 rfl) rfl dX13_book_112 ?_
        rw [z3.2.2.1]
        refine zJ_istore dX13_book_115 (Nat.le_of_ble_eq_true rfl) (by decide) ?_
        refine zJ_aload_n dX13_book_117 rfl ?_
        refine zJ_iconst (v := nI 0) dX13_book_118 rfl ?_
        refine zJ_aload_n dX13_book_119 rfl ?_
        refine zP_getr lf_X13_23 (zSt_ob hs 74 13 rfl) rfl (zSt_rf hs 74 12 78 rfl) dX13_book_120 ?_
        refine zJ_iconst (v := nI 1) dX13_book_123 rfl ?_
        refine zP_iald (zSt_ar hs 78 4 rfl) (by first | assumption | with_reducible exact vp_in_nI (by omega) (by omega) | (simp (disch := omega) only [nI_add, pk_mul, pk_sub, pk_div, pk_rem, nI_clamp]; with_reducible exact vp_in_nI (by omega) (by omega))) dX13_book_124 ?_
        rw [nI_clamp (by omega), (told e3).2]
        refine zJ_iconst (v := nI 1) dX13_book_125 rfl ?_
        refine zJ_isub dX13_book_126 ?_
        refine zP_ecallVi [_, _] _ lv_X13_169 (m_number0 (lo := 0) (hi := W) (d := d - 1) hl (by omega) hs z3 (by omega) (by omega) rfl rfl) (zSt_ob hs 74 13 rfl) rfl (by omega) (Nat.le_of_ble_eq_true rfl) rfl dX13_book_127 (fun yv J4 h4 => ?_)
        refine zJ_istore dX13_book_130 (Nat.le_of_ble_eq_true rfl) (by decide) ?_
        refine zJ_iconst (v := nI 0) dX13_book_132 rfl ?_
        refine zJ_istore dX13_book_133 (Nat.le_of_ble_eq_true rfl) (by decide) ?_
        obtain ⟨f4, p4⟩ := h4
        have e4 := Eft e3 f4
        rw [pNum_sk] at p4
        cases hy : pNum bs L 0 W A1 with
        | inl q =>
          rw [hy] at p4 hp0
          have hR2 := hbad q (by rw [hpl _ hp0]; rfl)
          obtain ⟨A4, z4, -⟩ := p4
          exact zJ_back (zle_r (zle_r (zle_r (zle_r (zle_r (zle_r (zle_r (zle_r zle_0)))))))) rfl (dupE J4 A4 bk.length 0 q _ _ _ _ hb8 (by omega) e4 z4 hR2)
        | inr qy =>
          obtain ⟨y, A2⟩ := qy
          rw [hy] at p4 hp0
          obtain ⟨z4, hyv, -, hyW⟩ := rP_ok p4
          subst hyv
          rw [pbind_inr] at hp0
          have hbk4 := rBk_of (J := J4) hbk (fun a q1 q2 => by rw [f4.1 a (by omega), f3.1 a (by omega), f2.1 a (by omega), f1.1 a (by omega)])
          have dup : ∀ m k, k + m = bk.length → anyB (fun i => decide (bkP bk i = y * 8 + x)) k = false → zJ l Xi mX13_book d 0 0 135 [some (.ref 74), some (.int (nI L)), some (.int (nI bk.length)), some (.int (nI B)), some (.int (nI x)), some (.int (nI (sk bs L A1))), some (.int (nI y)), some (.int (nI k))] [] (J4, g) P := by
            intro m
            induction m with
            | zero =>
              intro k hk hany
              obtain rfl : k = bk.length := by omega
              have hA : bkA bk (y * 8 + x) = false := hany
              rw [hA, if_neg (by decide)] at hp0
              refine zJ_iload dX13_book_135 rfl ?_
              refine zJ_iload_n dX13_book_137 rfl ?_
              refine zJ_icmp_ge 181 dX13_book_138 (by decide) (fun _ => ?_) (fun c138 => absurd (nI_le (by omega) (by omega)) c138)
              refine fin J4 A2 x y 0 bk _ _ _ 0 e4 z4 hbk4 (by omega) hxC hyW (fun r' hr' => ⟨fun q hq => hbad q ?_, fun q A' K hq eK zK bK => hgo q A' K ?_ eK zK bK⟩)
              · rw [hpl _ hp0, pbind_inr]; exact hr'.trans hq
              · rw [hpl _ hp0, pbind_inr]; exact hr'.trans hq
            | succ m ih =>
              intro k hk hany
              have hv := hbk4.2 k (by omega)
              refine zJ_iload dX13_book_135 rfl ?_
              refine zJ_iload_n dX13_book_137 rfl ?_
              refine zJ_icmp_ge 181 dX13_book_138 (by decide) (fun c138 => absurd c138 (nI_ge (by omega) (by omega))) (fun _ => ?_)
              refine zJ_aload_n dX13_book_141 rfl ?_
              refine zP_geti lf_X13_123 (zSt_ob hs 74 13 rfl) rfl dX13_book_142 ?_
              refine zJ_if_ne 181 dX13_book_145 (by decide) (fun c145 => absurd z4.2.2.2.2.1 c145) (fun _ => ?_)
              refine zJ_aload_n dX13_book_148 rfl ?_
              refine zP_getr lf_X13_58 (zSt_ob hs 74 13 rfl) rfl (zSt_rf hs 74 25 441 rfl) dX13_book_149 ?_
              refine zJ_iload dX13_book_152 rfl ?_
              refine zP_rowK (k := k) (zSt_g441 hs) (by omega) (by decide) dX13_book_154 ?_
              refine zJ_iconst (v := nI 0) dX13_book_155 rfl ?_
              refine zP_iald (zGr_ar (zSt_g441 hs) (i := k) (by omega)) (by first | assumption | with_reducible exact vp_in_nI (by omega) (by omega) | (simp (disch := omega) only [nI_add, pk_mul, pk_sub, pk_div, pk_rem, nI_clamp]; with_reducible exact vp_in_nI (by omega) (by omega))) dX13_book_156 ?_
              rw [nI_clamp (by omega), hv.1]
              refine zJ_bipush (v := nI 8) dX13_book_157 rfl ?_
              refine zJ_iload dX13_book_159 rfl ?_
              refine zJ_imul dX13_book_161 ?_
              refine zJ_iload dX13_book_162 rfl ?_
              refine zJ_iadd dX13_book_164 ?_
              rw [pk_mul, nI_add, Nat.mul_comm]
              refine zJ_icmp_ne 175 dX13_book_165 (by decide) (fun c165 => ?_) (fun c165 => ?_)
              · skip
                refine zJ_iinc1 dX13_book_175 rfl (by decide) ?_
                refine zJ_goto 135 dX13_book_178 (by decide) ?_
                refine zJ_back (zle_r (zle_r (zle_r (zle_r (zle_r (zle_r (zle_r (zle_r zle_0)))))))) rfl (ih (k + 1) (by omega) ?_)
                show (anyB (fun i => decide (bkP bk i = y * 8 + x)) k || decide (bkP bk k = y * 8 + x)) = false
                rw [hany, Bool.false_or]
                exact decide_eq_false (fun z => c165 (by rw [z]))
              · skip
                refine zJ_aload_n dX13_book_168 rfl ?_
                refine zJ_iconst (v := nI 2) dX13_book_169 rfl ?_
                refine zJ_iload dX13_book_170 rfl ?_
                refine zP_ecallVv [_, _] _ lv_X13_136 (m_wrong (d := d - 1) hl (by omega) hs z4 (by omega) (by omega) rfl) (zSt_ob hs 74 13 rfl) rfl (by omega) (Nat.le_of_ble_eq_true rfl) rfl dX13_book_172 (fun J5 h5 => ?_)
                refine zJ_iinc1 dX13_book_175 rfl (by decide) ?_
                refine zJ_goto 135 dX13_book_178 (by decide) ?_
                have heq : bkP bk k = y * 8 + x := (nI_eq (by omega) (by omega)).mp c165
                have hA : bkA bk (y * 8 + x) = true := anyB_iff.mpr ⟨k, by omega, decide_eq_true heq⟩
                rw [hA, if_pos rfl] at hp0
                have hR2 := hbad (2, sk bs L A1) (by rw [hpl _ hp0]; rfl)
                exact zJ_back (zle_r (zle_r (zle_r (zle_r (zle_r (zle_r (zle_r (zle_r zle_0)))))))) rfl (dupE J5 A2 bk.length (k + 1) (2, sk bs L A1) _ _ _ _ hb8 (by omega) (Eft e4 h5.1) h5.2 hR2)
          exact zJ_back (zle_r (zle_r (zle_r (zle_r (zle_r (zle_r (zle_r (zle_r zle_0)))))))) rfl (dup bk.length 0 (by omega) rfl)
  have loop : ∀ k (J : zI) (B : Nat) (bk : List (Nat × Nat)), bk.length + (k + 1) = 9 → E J → rz J bs L B none → sk bs L B = B → rBk J bk → pBook bs L C W (k + 1) bk B = R → zJ l Xi mX13_book d 0 0 46 [some (.ref 74), some (.int (nI L)), some (.int (nI bk.length)), none, none, none, none, none] [] (J, g) P := by
    intro k
    induction k with
    | zero =>
      intro J B bk hlen e hz hB hbk hp
      rw [pBook, hB] at hp
      by_cases z : L ≤ B
      · rw [if_pos z] at hp
        exact good J B bk e hz z hbk hp.symm
      · rw [if_neg z] at hp
        refine step J B bk e hz hB (by omega) hbk (fun q hq => ?_) (fun q A' K hq eK zK bK => ?_)
        · rw [← hp, hq]; rfl
        · exfalso
          unfold pLine pLine0 at hq
          cases hx : pNum bs L 0 C B with
          | inl q' => rw [hx] at hq; cases hq
          | inr q' => rw [hx, pbind_inr, if_pos (by omega)] at hq; cases hq
    | succ k ih =>
      intro J B bk hlen e hz hB hbk hp
      rw [pBook, hB] at hp
      by_cases z : L ≤ B
      · rw [if_pos z] at hp
        exact good J B bk e hz z hbk hp.symm
      · rw [if_neg z] at hp
        refine step J B bk e hz hB (by omega) hbk (fun q hq => ?_) (fun q A' K hq eK zK bK => ?_)
        · rw [← hp, hq]; rfl
        · have h9 := ih K (sk bs L A') (bk ++ [q]) (by rw [List.length_append, List.length_singleton]; omega) eK zK sk_sk bK (by rw [pBook_sk, ← hp, hq]; rfl)
          rw [List.length_append, List.length_singleton] at h9
          exact h9
  rw [← hP]
  refine zJ_aload_n dX13_book_0 rfl ?_
  refine zJ_iconst (v := nI 0) dX13_book_1 rfl ?_
  refine zP_puti lf_X13_107 (zSt_ob hs 74 13 rfl) rfl dX13_book_2 ?_
  refine zJ_aload_n dX13_book_5 rfl ?_
  refine zJ_iload_n dX13_book_6 rfl ?_
  refine zJ_iconst (v := nI 0) dX13_book_7 rfl ?_
  refine zJ_aload_n dX13_book_8 rfl ?_
  refine zP_geti lf_X13_110 (zSt_ob hs 74 13 rfl) rfl dX13_book_9 ?_
  rw [htp]
  refine zP_callSi [_, _, _] _ ls_X13_141 (k_in (d := d - 1) hl (by omega)) rfl (by omega) (Nat.le_of_ble_eq_true rfl) rfl dX13_book_12 ?_
  rw [in_ok (Nat.zero_le _) hL (by omega)]
  refine zJ_if_eq 24 dX13_book_15 (by decide) (fun c15 => absurd c15 (by decide)) (fun _ => ?_)
  refine zJ_iload_n dX13_book_18 rfl ?_
  refine zJ_bipush (v := nI 60) dX13_book_19 rfl ?_
  refine zJ_icmp_le 28 dX13_book_21 (by decide) (fun _ => ?_) (fun c21 => absurd ((nI_leI (by omega) (by omega)).mpr hL2) c21)
  refine zJ_iconst (v := nI 0) dX13_book_28 rfl ?_
  refine zJ_iconst (v := nI 1) dX13_book_29 rfl ?_
  refine zJ_iconst (v := nI 1) dX13_book_30 rfl ?_
  refine zP_callVi [_, _, _] _ lv_X13_186 (m_badF (d := d - 1) hl (by omega) hs thr_at) (zSt_ob hs 74 13 rfl) rfl (by omega) (Nat.le_of_ble_eq_true rfl) rfl dX13_book_31 ?_
  refine zJ_if_eq 39 dX13_book_34 (by decide) (fun _ => ?_) (fun c34 => absurd rfl c34)
  refine zJ_aload_n dX13_book_39 rfl ?_
  refine zJ_iload_n dX13_book_40 rfl ?_
  refine zP_ecallVv [_] _ lv_X13_190 (m_starts (d := d - 1) hl (by omega) hs hI0.1 hL) (zSt_ob hs 74 13 rfl) rfl (by omega) (Nat.le_of_ble_eq_true rfl) rfl dX13_book_41 (fun J1 h1 => ?_)
  refine zJ_iconst (v := nI 0) dX13_book_44 rfl ?_
  refine zJ_istore_m 2 dX13_book_45 rfl (Nat.le_of_ble_eq_true rfl) (by decide) ?_
  obtain ⟨a1, a2, a3, a4, a5⟩ := h1
  rw [hbs] at a2
  refine zJ_back (zle_r (zle_r (zle_r (zle_n (zle_n (zle_n (zle_n (zle_n zle_0)))))))) rfl (loop 8 J1 (sk bs L 0) [] rfl ?_ a2 sk_sk ⟨Nat.zero_le _, fun i hi => absurd hi (Nat.not_lt_zero _)⟩ (pBook_sk.trans hR))
  rw [hE]
  exact ⟨fun a q1 q2 => by rw [a1.1 a q1, zup_row q1], fun k q0 q1 q2 q4 q5 q6 q7 q8 => by rw [a1.2 k q1 q2 q4 q5 q6 q7 q8, thr_ne q0], by rw [a1.2 0 (by decide) (by decide) (by decide) (by decide) (by decide) (by decide) (by decide)]; exact thr_at, a3⟩
theorem m_bookN (hl : l.stackTraces = false) (hd : 12 ≤ d) (hs : zSt g) {S : sT} (hI : rI I S) {x : Int32} (hno : (decide (¬ x < nI 0 ∧ x ≤ nI S.1.1) && decide (x ≤ nI 60)) = false) : zEi l Xi mX13_book d [.ref 74, .int x] I g (fun v J => J 74 0 = nI 1 ∧ rI J (rfU S false) ∧ rQ2 I J) := by
  refine zC_of hl rfl rfl rfl (Nat.le_of_ble_eq_true rfl) (zav_r (zSt_ob hs 74 13 rfl).1 (zav_i zav_0)) ?_
  have htp : (zup I 74 0 (nI 0)) 74 1 = nI S.1.1 := (rI_rQ hI (rQ_thr (x := nI 0))).1.1
  obtain ⟨k1, k2, k3⟩ := rI_bad (w := 1) (k := false) hI
  cases hc : decide (¬ x < nI 0 ∧ x ≤ nI S.1.1) with
  | false =>
    refine zJ_aload_n dX13_book_0 rfl ?_
    refine zJ_iconst (v := nI 0) dX13_book_1 rfl ?_
    refine zP_puti lf_X13_107 (zSt_ob hs 74 13 rfl) rfl dX13_book_2 ?_
    refine zJ_aload_n dX13_book_5 rfl ?_
    refine zJ_iload_n dX13_book_6 rfl ?_
    refine zJ_iconst (v := nI 0) dX13_book_7 rfl ?_
    refine zJ_aload_n dX13_book_8 rfl ?_
    refine zP_geti lf_X13_110 (zSt_ob hs 74 13 rfl) rfl dX13_book_9 ?_
    rw [htp]
    refine zP_callSi [_, _, _] _ ls_X13_141 (k_in (d := d - 1) hl (by omega)) rfl (by omega) (Nat.le_of_ble_eq_true rfl) rfl dX13_book_12 ?_
    rw [hc]
    refine zJ_if_eq 24 dX13_book_15 (by decide) (fun _ => ?_) (fun c15 => absurd rfl c15)
    refine zJ_iconst (v := nI 1) dX13_book_24 rfl ?_
    refine zJ_goto 29 dX13_book_25 (by decide) ?_
    refine zJ_iconst (v := nI 1) dX13_book_29 rfl ?_
    refine zJ_iconst (v := nI 1) dX13_book_30 rfl ?_
    refine zP_callVi [_, _, _] _ lv_X13_186 (m_badT (d := d - 1) (w := 1) (r := 1) hl (by omega) hs thr_at (by omega) (by omega)) (zSt_ob hs 74 13 rfl) rfl (by omega) (Nat.le_of_ble_eq_true rfl) rfl dX13_book_31 ?_
    refine zJ_if_eq 39 dX13_book_34 (by decide) (fun c34 => absurd c34 (by decide)) (fun _ => ?_)
    refine zJ_iconst (v := nI 0) dX13_book_37 rfl ?_
    refine zJ_iret rfl dX13_book_38 ?_
    exact ⟨_, _, rfl, rfl, k2, k1, k3⟩
  | true =>
    rw [hc, Bool.true_and] at hno
    refine zJ_aload_n dX13_book_0 rfl ?_
    refine zJ_iconst (v := nI 0) dX13_book_1 rfl ?_
    refine zP_puti lf_X13_107 (zSt_ob hs 74 13 rfl) rfl dX13_book_2 ?_
    refine zJ_aload_n dX13_book_5 rfl ?_
    refine zJ_iload_n dX13_book_6 rfl ?_
    refine zJ_iconst (v := nI 0) dX13_book_7 rfl ?_
    refine zJ_aload_n dX13_book_8 rfl ?_
    refine zP_geti lf_X13_110 (zSt_ob hs 74 13 rfl) rfl dX13_book_9 ?_
    rw [htp]
    refine zP_callSi [_, _, _] _ ls_X13_141 (k_in (d := d - 1) hl (by omega)) rfl (by omega) (Nat.le_of_ble_eq_true rfl) rfl dX13_book_12 ?_
    rw [hc]
    refine zJ_if_eq 24 dX13_book_15 (by decide) (fun c15 => absurd c15 (by decide)) (fun _ => ?_)
    refine zJ_iload_n dX13_book_18 rfl ?_
    refine zJ_bipush (v := nI 60) dX13_book_19 rfl ?_
    refine zJ_icmp_le 28 dX13_book_21 (by decide) (fun c21 => absurd c21 (of_decide_eq_false hno)) (fun _ => ?_)
    refine zJ_iconst (v := nI 1) dX13_book_24 rfl ?_
    refine zJ_goto 29 dX13_book_25 (by decide) ?_
    refine zJ_iconst (v := nI 1) dX13_book_29 rfl ?_
    refine zJ_iconst (v := nI 1) dX13_book_30 rfl ?_
    refine zP_callVi [_, _, _] _ lv_X13_186 (m_badT (d := d - 1) (w := 1) (r := 1) hl (by omega) hs thr_at (by omega) (by omega)) (zSt_ob hs 74 13 rfl) rfl (by omega) (Nat.le_of_ble_eq_true rfl) rfl dX13_book_31 ?_
    refine zJ_if_eq 39 dX13_book_34 (by decide) (fun c34 => absurd c34 (by decide)) (fun _ => ?_)
    refine zJ_iconst (v := nI 0) dX13_book_37 rfl ?_
    refine zJ_iret rfl dX13_book_38 ?_
    exact ⟨_, _, rfl, rfl, k2, k1, k3⟩
theorem m_lawN (hl : l.stackTraces = false) (hd : 12 ≤ d) (hs : zSt g) {S : sT} (hI : rI I S) {x : Int32} (hno : (decide (¬ x < nI 0 ∧ x ≤ nI S.1.1) && decide (x ≤ nI 150)) = false) : zEi l Xi mX13_law d [.ref 74, .int x] I g (fun v J => J 74 0 = nI 1 ∧ rI J (rfU S false) ∧ rQ2 I J) := by
  refine zC_of hl rfl rfl rfl (Nat.le_of_ble_eq_true rfl) (zav_r (zSt_ob hs 74 13 rfl).1 (zav_i zav_0)) ?_
  have htp : (zup I 74 0 (nI 0)) 74 1 = nI S.1.1 := (rI_rQ hI (rQ_thr (x := nI 0))).1.1
  obtain ⟨k1, k2, k3⟩ := rI_bad (w := 1) (k := false) hI
  cases hc : decide (¬ x < nI 0 ∧ x ≤ nI S.1.1) with
  | false =>
    refine zJ_aload_n dX13_law_0 rfl ?_
    refine zJ_iconst (v := nI 0) dX13_law_1 rfl ?_
    refine zP_puti lf_X13_107 (zSt_ob hs 74 13 rfl) rfl dX13_law_2 ?_
    refine zJ_aload_n dX13_law_5 rfl ?_
    refine zJ_iload_n dX13_law_6 rfl ?_
    refine zJ_iconst (v := nI 0) dX13_law_7 rfl ?_
    refine zJ_aload_n dX13_law_8 rfl ?_
    refine zP_geti lf_X13_110 (zSt_ob hs 74 13 rfl) rfl dX13_law_9 ?_
    rw [htp]
    refine zP_callSi [_, _, _] _ ls_X13_141 (k_in (d := d - 1) hl (by omega)) rfl (by omega) (Nat.le_of_ble_eq_true rfl) rfl dX13_law_12 ?_
    rw [hc]
    refine zJ_if_eq 25 dX13_law_15 (by decide) (fun _ => ?_) (fun c15 => absurd rfl c15)
    refine zJ_iconst (v := nI 1) dX13_law_25 rfl ?_
    refine zJ_goto 30 dX13_law_26 (by decide) ?_
    refine zJ_iconst (v := nI 1) dX13_law_30 rfl ?_
    refine zJ_iconst (v := nI 1) dX13_law_31 rfl ?_
    refine zP_callVi [_, _, _] _ lv_X13_186 (m_badT (d := d - 1) (w := 1) (r := 1) hl (by omega) hs thr_at (by omega) (by omega)) (zSt_ob hs 74 13 rfl) rfl (by omega) (Nat.le_of_ble_eq_true rfl) rfl dX13_law_32 ?_
    refine zJ_if_eq 40 dX13_law_35 (by decide) (fun c35 => absurd c35 (by decide)) (fun _ => ?_)
    refine zJ_iconst (v := nI 0) dX13_law_38 rfl ?_
    refine zJ_iret rfl dX13_law_39 ?_
    exact ⟨_, _, rfl, rfl, k2, k1, k3⟩
  | true =>
    rw [hc, Bool.true_and] at hno
    refine zJ_aload_n dX13_law_0 rfl ?_
    refine zJ_iconst (v := nI 0) dX13_law_1 rfl ?_
    refine zP_puti lf_X13_107 (zSt_ob hs 74 13 rfl) rfl dX13_law_2 ?_
    refine zJ_aload_n dX13_law_5 rfl ?_
    refine zJ_iload_n dX13_law_6 rfl ?_
    refine zJ_iconst (v := nI 0) dX13_law_7 rfl ?_
    refine zJ_aload_n dX13_law_8 rfl ?_
    refine zP_geti lf_X13_110 (zSt_ob hs 74 13 rfl) rfl dX13_law_9 ?_
    rw [htp]
    refine zP_callSi [_, _, _] _ ls_X13_141 (k_in (d := d - 1) hl (by omega)) rfl (by omega) (Nat.le_of_ble_eq_true rfl) rfl dX13_law_12 ?_
    rw [hc]
    refine zJ_if_eq 25 dX13_law_15 (by decide) (fun c15 => absurd c15 (by decide)) (fun _ => ?_)
    refine zJ_iload_n dX13_law_18 rfl ?_
    refine zJ_sipush (v := nI 150) dX13_law_19 rfl ?_
    refine zJ_icmp_le 29 dX13_law_22 (by decide) (fun c22 => absurd c22 (of_decide_eq_false hno)) (fun _ => ?_)
    refine zJ_iconst (v := nI 1) dX13_law_25 rfl ?_
    refine zJ_goto 30 dX13_law_26 (by decide) ?_
    refine zJ_iconst (v := nI 1) dX13_law_30 rfl ?_
    refine zJ_iconst (v := nI 1) dX13_law_31 rfl ?_
    refine zP_callVi [_, _, _] _ lv_X13_186 (m_badT (d := d - 1) (w := 1) (r := 1) hl (by omega) hs thr_at (by omega) (by omega)) (zSt_ob hs 74 13 rfl) rfl (by omega) (Nat.le_of_ble_eq_true rfl) rfl dX13_law_32 ?_
    refine zJ_if_eq 40 dX13_law_35 (by decide) (fun c35 => absurd c35 (by decide)) (fun _ => ?_)
    refine zJ_iconst (v := nI 0) dX13_law_38 rfl ?_
    refine zJ_iret rfl dX13_law_39 ?_
    exact ⟨_, _, rfl, rfl, k2, k1, k3⟩
theorem m_workN (hl : l.stackTraces = false) (hd : 12 ≤ d) (hs : zSt g) {S : sT} (hI : rI I S) {x : Int32} (hno : (decide (¬ x < nI 0 ∧ x ≤ nI S.1.1) && decide (x ≤ nI 150)) = false) : zEi l Xi mX13_work d [.ref 74, .int x] I g (fun v J => J 74 0 = nI 1 ∧ rI J (rfU S false) ∧ rQ2 I J) := by
  refine zC_of hl rfl rfl rfl (Nat.le_of_ble_eq_true rfl) (zav_r (zSt_ob hs 74 13 rfl).1 (zav_i zav_0)) ?_
  have htp : (zup I 74 0 (nI 0)) 74 1 = nI S.1.1 := (rI_rQ hI (rQ_thr (x := nI 0))).1.1
  obtain ⟨k1, k2, k3⟩ := rI_bad (w := 1) (k := false) hI
  cases hc : decide (¬ x < nI 0 ∧ x ≤ nI S.1.1) with
  | false =>
    refine zJ_aload_n dX13_work_0 rfl ?_
    refine zJ_iconst (v := nI 0) dX13_work_1 rfl ?_
    refine zP_puti lf_X13_107 (zSt_ob hs 74 13 rfl) rfl dX13_work_2 ?_
    refine zJ_aload_n dX13_work_5 rfl ?_
    refine zJ_iload_n dX13_work_6 rfl ?_
    refine zJ_iconst (v := nI 0) dX13_work_7 rfl ?_
    refine zJ_aload_n dX13_work_8 rfl ?_
    refine zP_geti lf_X13_110 (zSt_ob hs 74 13 rfl) rfl dX13_work_9 ?_
    rw [htp]
    refine zP_callSi [_, _, _] _ ls_X13_141 (k_in (d := d - 1) hl (by omega)) rfl (by omega) (Nat.le_of_ble_eq_true rfl) rfl dX13_work_12 ?_
    rw [hc]
    refine zJ_if_eq 25 dX13_work_15 (by decide) (fun _ => ?_) (fun c15 => absurd rfl c15)
    refine zJ_iconst (v := nI 1) dX13_work_25 rfl ?_
    refine zJ_goto 30 dX13_work_26 (by decide) ?_
    refine zJ_iconst (v := nI 1) dX13_work_30 rfl ?_
    refine zJ_iconst (v := nI 1) dX13_work_31 rfl ?_
    refine zP_callVi [_, _, _] _ lv_X13_186 (m_badT (d := d - 1) (w := 1) (r := 1) hl (by omega) hs thr_at (by omega) (by omega)) (zSt_ob hs 74 13 rfl) rfl (by omega) (Nat.le_of_ble_eq_true rfl) rfl dX13_work_32 ?_
    refine zJ_if_eq 40 dX13_work_35 (by decide) (fun c35 => absurd c35 (by decide)) (fun _ => ?_)
    refine zJ_iconst (v := nI 0) dX13_work_38 rfl ?_
    refine zJ_iret rfl dX13_work_39 ?_
    exact ⟨_, _, rfl, rfl, k2, k1, k3⟩
  | true =>
    rw [hc, Bool.true_and] at hno
    refine zJ_aload_n dX13_work_0 rfl ?_
    refine zJ_iconst (v := nI 0) dX13_work_1 rfl ?_
    refine zP_puti lf_X13_107 (zSt_ob hs 74 13 rfl) rfl dX13_work_2 ?_
    refine zJ_aload_n dX13_work_5 rfl ?_
    refine zJ_iload_n dX13_work_6 rfl ?_
    refine zJ_iconst (v := nI 0) dX13_work_7 rfl ?_
    refine zJ_aload_n dX13_work_8 rfl ?_
    refine zP_geti lf_X13_110 (zSt_ob hs 74 13 rfl) rfl dX13_work_9 ?_
    rw [htp]
    refine zP_callSi [_, _, _] _ ls_X13_141 (k_in (d := d - 1) hl (by omega)) rfl (by omega) (Nat.le_of_ble_eq_true rfl) rfl dX13_work_12 ?_
    rw [hc]
    refine zJ_if_eq 25 dX13_work_15 (by decide) (fun c15 => absurd c15 (by decide)) (fun _ => ?_)
    refine zJ_iload_n dX13_work_18 rfl ?_
    refine zJ_sipush (v := nI 150) dX13_work_19 rfl ?_
    refine zJ_icmp_le 29 dX13_work_22 (by decide) (fun c22 => absurd c22 (of_decide_eq_false hno)) (fun _ => ?_)
    refine zJ_iconst (v := nI 1) dX13_work_25 rfl ?_
    refine zJ_goto 30 dX13_work_26 (by decide) ?_
    refine zJ_iconst (v := nI 1) dX13_work_30 rfl ?_
    refine zJ_iconst (v := nI 1) dX13_work_31 rfl ?_
    refine zP_callVi [_, _, _] _ lv_X13_186 (m_badT (d := d - 1) (w := 1) (r := 1) hl (by omega) hs thr_at (by omega) (by omega)) (zSt_ob hs 74 13 rfl) rfl (by omega) (Nat.le_of_ble_eq_true rfl) rfl dX13_work_32 ?_
    refine zJ_if_eq 40 dX13_work_35 (by decide) (fun c35 => absurd c35 (by decide)) (fun _ => ?_)
    refine zJ_iconst (v := nI 0) dX13_work_38 rfl ?_
    refine zJ_iret rfl dX13_work_39 ?_
    exact ⟨_, _, rfl, rfl, k2, k1, k3⟩
end ZRefAL
