/-! ===== law, book ===== -/
section ZX12f
variable {l : Launch} {Xi : zXi} {d : Nat} {I : zI} {g : zG}
def lwW (b : zWo) (cs : List Int32) : zWo := (b.1, b.2.1, b.2.2.1, b.2.2.2.1, b.2.2.2.2.1, b.2.2.2.2.2.1, (fun i => cs.getD i 0), cs.length)
theorem okR_lw {b : zWo} {cs : List Int32} {R : rwT} (h : okR b R) : okR (lwW b cs) R := h
theorem bdOk_lw {b : zWo} {cs : List Int32} (h : bdOk b) (h2 : lawOk (fun i => cs.getD i 0) cs.length) : bdOk (lwW b cs) := ⟨h.1, h.2.1, h.2.2.1, h.2.2.2.1, h.2.2.2.2.1, h.2.2.2.2.2.1, h.2.2.2.2.2.2.1, h.2.2.2.2.2.2.2.1, h.2.2.2.2.2.2.2.2.1, h2⟩
def lwS (S : sT) (cs : List Int32) : sT := ((0, S.1.2.1, -1), lwW S.2.1 cs, S.2.2)
theorem okS_lw {S : sT} {cs : List Int32} (h : okS S) : okS (lwS S cs) := h
theorem okS_flt {S : sT} {w : Nat} (h : okS S) : okS (fltS S w) := h
def lawQ (S : sT) (L : Nat) (g : zG) (I : zI) (v : Int32) (J : zI) : Prop := fC I J ∧ match pLaw S.1.2.1 L with
  | .inl q => v = errV q ∧ cI J g (fltS S q.2)
  | .inr q => v = 1 ∧ cI J g (lwS S q.1)
theorem lOk_p {bs : Nat → Nat} {L A F : Nat} {r : PR (List Int32)} (h : lOk I bs L A F r) : pOk I bs L A F r (fun cs => lw I cs) := ⟨h.1, fun cs a e => ⟨(h.2.2 cs a e).1, (h.2.2 cs a e).2.1⟩⟩
theorem k_law (hl : l.stackTraces = false) (hd : 48 ≤ d) (hs : zSt g) {S : sT} (hI : cI I g S) {L : Nat} (hL : L ≤ S.1.1) (hL2 : L ≤ 150) : zEi l Xi mX12_law d [.ref 0, .int (nI L)] I g (lawQ S L g I) := by
  refine zC_of hl rfl rfl rfl (Nat.le_of_ble_eq_true rfl) (zav_r (zSt_ob hs 0 12 rfl).1 (zav_i zav_0)) ?_
  have h600 := hI.1.2.1
  have hI0 := hI
  obtain ⟨i1, i2, i3, i4, i5, i6, i7, i8, i9⟩ := hI0
  obtain ⟨P, hP⟩ : ∃ P, pLaw S.1.2.1 L = P := ⟨_, rfl⟩
  unfold lawQ
  rw [hP]
  refine zJ_aload_n dX12_law_0 rfl ?_
  refine zJ_iload_n dX12_law_1 rfl ?_
  refine zJ_sipush (v := nI 150) dX12_law_2 rfl ?_
  refine zP_callVv [_, _] _ lv_X12_115 (k_needLength (d := d - 1) hl (by omega) hs (k_length hI hL2 hL (by omega))) (zSt_ob hs 0 12 rfl) rfl (by omega) (Nat.le_of_ble_eq_true rfl) rfl dX12_law_5 ?_
  refine zJ_aload_n dX12_law_8 rfl ?_
  refine zP_getr lf_X12_12 (zSt_ob hs 0 12 rfl) rfl (zSt_rf hs 0 0 1 rfl) dX12_law_9 ?_
  refine zJ_iload_n dX12_law_12 rfl ?_
  refine zP_ecallVv [_] _ lv_X12_119 (k_begin (d := d - 1) hl (by omega) hs i1 (by omega)) (zSt_ob hs 1 10 rfl) rfl (by omega) (Nat.le_of_ble_eq_true rfl) rfl dX12_law_13 (fun J1 h1 => ?_)
  refine zJ_aload_n dX12_law_16 rfl ?_
  refine zP_getr lf_X12_33 (zSt_ob hs 0 12 rfl) rfl (zSt_rf hs 0 4 25 rfl) dX12_law_17 ?_
  refine zJ_aload_n dX12_law_20 rfl ?_
  refine zP_getr lf_X12_12 (zSt_ob hs 0 12 rfl) rfl (zSt_rf hs 0 0 1 rfl) dX12_law_21 ?_
  refine zP_ecallVv [_] _ lv_X12_139 (k_lawRead (d := d - 1) hl (by omega) hs h1.2 hL2) (zSt_ob hs 25 5 rfl) rfl (by omega) (Nat.le_of_ble_eq_true rfl) rfl dX12_law_24 (fun J2 h2 => ?_)
  obtain ⟨f2, A2, F2, p2'⟩ := h2
  rw [hP] at p2'
  have p2 := lOk_p p2'
  refine zJ_aload_n dX12_law_27 rfl ?_
  refine zP_getr lf_X12_12 (zSt_ob hs 0 12 rfl) rfl (zSt_rf hs 0 0 1 rfl) dX12_law_28 ?_
  refine zP_callVi [] _ lv_X12_126 (k_failedP (d := d - 1) hl (by omega) hs p2) (zSt_ob hs 1 10 rfl) rfl (by omega) (Nat.le_of_ble_eq_true rfl) rfl dX12_law_31 ?_
  refine zJ_if_eq 48 dX12_law_34 (by decide) (fun c34 => ?_) (fun c34 => ?_)
  · replace c34 := zb0.mp c34
    obtain ⟨cs, hr, hr1⟩ := toE_ok p2 c34
    rw [hr] at p2 ⊢
    obtain ⟨tp2, fl2⟩ := tX_tp p2.1
    have fAll : ∀ a, a ≠ 1 → (a < 25 ∨ 28 < a) → J2 a = I a := fun a q1 q2 => by rw [f2 a q1 (by omega) (by omega), h1.1 a q1]
    have hlw := (pLaw_ok (hP.trans hr) hL2).1
    refine zJ_aload_n dX12_law_48 rfl ?_
    refine zP_getr lf_X12_29 (zSt_ob hs 0 12 rfl) rfl (zSt_rf hs 0 3 21 rfl) dX12_law_49 ?_
    refine zJ_aload_n dX12_law_52 rfl ?_
    refine zP_getr lf_X12_33 (zSt_ob hs 0 12 rfl) rfl (zSt_rf hs 0 4 25 rfl) dX12_law_53 ?_
    refine zP_ecallVv [_] _ lv_X12_140 (k_lawCopy (d := d - 1) hl (by omega) (zSt_law hs) (zSt_spareLaw hs) (by decide) hr1.1 hlw.1) (zSt_ob hs 21 5 rfl) rfl (by omega) (Nat.le_of_ble_eq_true rfl) rfl dX12_law_56 (fun J3 h3 => ?_)
    obtain ⟨b1, b2, b3, b4⟩ := h3
    refine zJ_iconst (v := nI 1) dX12_law_59 rfl ?_
    refine zJ_iret rfl dX12_law_60 ?_
    have e : ∀ a, a ≠ 1 → a ≠ 21 → a ≠ 23 → (a < 25 ∨ 28 < a) → J3 a = I a := fun a q1 q2 q3 q4 => by rw [b1 a q2 q3, fAll a q1 q4]
    have e12 : J3 1 = J2 1 ∧ J3 2 = J2 2 := ⟨b1 1 (by decide) (by decide), b1 2 (by decide) (by decide)⟩
    refine ⟨_, J3, rfl, rfl, fun a q1 q2 => e a (by omega) (by omega) (by omega) (by omega), rfl, tp_of tp2 e12.1 e12.2, by rw [e12.1]; exact fl2, ?_, zRow_of i4 (fun a q1 q2 => e a (by omega) (by omega) (by omega) (by omega)), zBk_of i5 (fun a q1 q2 => e a (by omega) (by omega) (by omega) (by omega)), shI_of i6 (fun q hq => e q (by omega) (by omega) (by omega) (by omega)), by rw [e 0 (by decide) (by decide) (by decide) (by decide)]; exact ⟨i7, i8, i9⟩⟩
    obtain ⟨w1, w2, w3, w4, w5, w6, w7, w8, w9, w10⟩ := i3
    unfold zBd at w2
    refine ⟨bdOk_lw w1 hlw, ?_, ?_, fun n hn => ?_, fun p hp => ?_, fun p hp => ?_, fun p v hp hv => ?_, b3, fun i hi => ?_, w10⟩
    · unfold zBd
      rw [e 3 (by decide) (by decide) (by decide) (by decide), e (3 + 3) (by decide) (by decide) (by decide) (by decide), e (3 + 4) (by decide) (by decide) (by decide) (by decide)]
      exact w2
    · rw [e 3 (by decide) (by decide) (by decide) (by decide)]; exact w3
    · rw [e 5 (by decide) (by decide) (by decide) (by decide)]; exact w4 n hn
    · rw [e 9 (by decide) (by decide) (by decide) (by decide)]; exact w5 p hp
    · rw [e 8 (by decide) (by decide) (by decide) (by decide)]; exact w6 p hp
    · rw [e 11 (by decide) (by decide) (by decide) (by decide)]; exact w7 p v hp hv
    · exact (b4 i hi).trans (hr1.2 i hi)
  · replace c34 := zb1.mp c34
    refine zJ_aload_n dX12_law_37 rfl ?_
    refine zP_getr lf_X12_12 (zSt_ob hs 0 12 rfl) rfl (zSt_rf hs 0 0 1 rfl) dX12_law_38 ?_
    refine zP_geti lf_X12_130 (zSt_ob hs 1 10 rfl) rfl dX12_law_41 ?_
    obtain ⟨q, rfl⟩ := toE_no c34
    rw [tX_k p2.1]
    refine zJ_bipush (v := nI 10) dX12_law_44 rfl ?_
    refine zJ_isub dX12_law_46 ?_
    refine zJ_iret rfl dX12_law_47 ?_
    obtain ⟨tp2, fl2⟩ := tX_tp p2.1
    have h9 := cI_tape hI (fun a q1 q2 q3 q4 _ => by rw [f2 a q1 (by omega) (by omega), h1.1 a q1]) tp2 fl2
    exact ⟨_, J2, rfl, rfl, h9.2, rfl, h9.1⟩
def bkS (S : sT) (bk : List (Nat × Nat)) : sT := ((0, S.1.2.1, -1), S.2.1, S.2.2.1, bk, S.2.2.2.2)
theorem okS_bk {S : sT} {bk : List (Nat × Nat)} (h : okS S) : okS (bkS S bk) := h
def bokQ (S : sT) (L : Nat) (g : zG) (I : zI) (v : Int32) (J : zI) : Prop := fC I J ∧ match pBook S.1.2.1 L (bC S.2.1) (bR S.2.1) 9 [] 0 with
  | .inl q => v = errV q ∧ cI J g (fltS S q.2)
  | .inr q => v = nI q.1.length ∧ cI J g (bkS S q.1)
theorem k_book (hl : l.stackTraces = false) (hd : 12 ≤ d) (hs : zSt g) {S : sT} (hI : cI I g S) {L : Nat} (hL : L ≤ S.1.1) (hL2 : L ≤ 60) : zEi l Xi mX12_book d [.ref 0, .int (nI L)] I g (bokQ S L g I) := by
  refine zC_of hl rfl rfl rfl (Nat.le_of_ble_eq_true rfl) (zav_r (zSt_ob hs 0 12 rfl).1 (zav_i zav_0)) ?_
  have h600 := hI.1.2.1
  have hI0 := hI
  obtain ⟨i1, i2, i3, i4, i5, i6, i7, i8, i9⟩ := hI0
  have hB := i3.2.1
  obtain ⟨P, hP⟩ : ∃ P, pBook S.1.2.1 L (bC S.2.1) (bR S.2.1) 9 [] 0 = P := ⟨_, rfl⟩
  unfold bokQ
  rw [hP]
  refine zJ_aload_n dX12_book_0 rfl ?_
  refine zJ_iload_n dX12_book_1 rfl ?_
  refine zJ_bipush (v := nI 60) dX12_book_2 rfl ?_
  refine zP_callVv [_, _] _ lv_X12_115 (k_needLength (d := d - 1) hl (by omega) hs (k_length hI hL2 hL (by omega))) (zSt_ob hs 0 12 rfl) rfl (by omega) (Nat.le_of_ble_eq_true rfl) rfl dX12_book_4 ?_
  refine zJ_aload_n dX12_book_7 rfl ?_
  refine zP_getr lf_X12_12 (zSt_ob hs 0 12 rfl) rfl (zSt_rf hs 0 0 1 rfl) dX12_book_8 ?_
  refine zJ_iload_n dX12_book_11 rfl ?_
  refine zP_ecallVv [_] _ lv_X12_119 (k_begin (d := d - 1) hl (by omega) hs i1 (by omega)) (zSt_ob hs 1 10 rfl) rfl (by omega) (Nat.le_of_ble_eq_true rfl) rfl dX12_book_12 (fun J1 h1 => ?_)
  refine zJ_aload_n dX12_book_15 rfl ?_
  refine zP_getr lf_X12_43 (zSt_ob hs 0 12 rfl) rfl (zSt_rf hs 0 6 32 rfl) dX12_book_16 ?_
  refine zJ_aload_n dX12_book_19 rfl ?_
  refine zP_getr lf_X12_12 (zSt_ob hs 0 12 rfl) rfl (zSt_rf hs 0 0 1 rfl) dX12_book_20 ?_
  refine zJ_aload_n dX12_book_23 rfl ?_
  refine zP_getr lf_X12_19 (zSt_ob hs 0 12 rfl) rfl (zSt_rf hs 0 1 3 rfl) dX12_book_24 ?_
  refine zP_ecallVv [_, _] _ lv_X12_163 (k_bookRead (d := d - 1) hl (by omega) hs h1.2 (by rw [h1.1 3 (by decide)]; exact hB.1) (by rw [h1.1 3 (by decide)]; exact hB.2.1) i3.1.2.1 i3.1.2.2.2.1) (zSt_ob hs 32 1 rfl) rfl (by omega) (Nat.le_of_ble_eq_true rfl) rfl dX12_book_27 (fun J2 h2 => ?_)
  obtain ⟨f2, A2, F2, p2⟩ := h2
  rw [hP] at p2
  refine zJ_aload_n dX12_book_30 rfl ?_
  refine zP_getr lf_X12_12 (zSt_ob hs 0 12 rfl) rfl (zSt_rf hs 0 0 1 rfl) dX12_book_31 ?_
  refine zP_callVi [] _ lv_X12_126 (k_failedP (d := d - 1) hl (by omega) hs p2) (zSt_ob hs 1 10 rfl) rfl (by omega) (Nat.le_of_ble_eq_true rfl) rfl dX12_book_34 ?_
  refine zJ_if_eq 51 dX12_book_37 (by decide) (fun c37 => ?_) (fun c37 => ?_)
  · replace c37 := zb0.mp c37
    obtain ⟨bk, hr, hr1⟩ := toE_ok p2 c37
    rw [hr] at p2 ⊢
    obtain ⟨tp2, fl2⟩ := tX_tp p2.1
    have fAll : ∀ a, a ≠ 1 → (a < 32 ∨ 34 < a) → J2 a = I a := fun a q1 q2 => by rw [f2 a q1 (by omega) (by omega) (by omega), h1.1 a q1]
    obtain ⟨k1, k2, k3⟩ := hr1
    refine zJ_aload_n dX12_book_51 rfl ?_
    refine zP_getr lf_X12_39 (zSt_ob hs 0 12 rfl) rfl (zSt_rf hs 0 5 29 rfl) dX12_book_52 ?_
    refine zJ_aload_n dX12_book_55 rfl ?_
    refine zP_getr lf_X12_43 (zSt_ob hs 0 12 rfl) rfl (zSt_rf hs 0 6 32 rfl) dX12_book_56 ?_
    refine zP_callVv [_] _ lv_X12_164 (k_X1_copyFrom (d := d - 1) hl (by omega) (zSt_book hs) (zSt_spareBook hs)) (zSt_ob hs 29 1 rfl) rfl (by omega) (Nat.le_of_ble_eq_true rfl) rfl dX12_book_59 ?_
    refine zJ_aload_n dX12_book_62 rfl ?_
    refine zP_getr lf_X12_39 (zSt_ob hs 0 12 rfl) rfl (zSt_rf hs 0 5 29 rfl) dX12_book_63 ?_
    refine zP_geti lf_X12_167 (zSt_ob hs 29 1 rfl) rfl dX12_book_66 ?_
    rw [show f_copyK J2 29 32 29 0 = nI bk.length from k1]
    refine zJ_iret rfl dX12_book_69 ?_
    have e' : ∀ a, (a < 29 ∨ 31 < a) → f_copyK J2 29 32 a = J2 a := fun a ha => by
      unfold f_copyK cpRow
      rw [va_up_row (by omega), va_up_row (by omega), zup_row (by omega)]
    have e : ∀ a, a ≠ 1 → (a < 29 ∨ 34 < a) → f_copyK J2 29 32 a = I a := fun a q1 q2 => by rw [e' a (by omega), fAll a q1 (by omega)]
    refine ⟨_, f_copyK J2 29 32, rfl, rfl, fun a q1 q2 => e a (by omega) (by omega), rfl, tp_of tp2 (e' 1 (by decide)) (e' 2 (by decide)), by rw [e' 1 (by decide)]; exact fl2, zWi_of i3 (fun a ha => e a (by omega) (by omega)), zRow_of i4 (fun a q1 q2 => e a (by omega) (by omega)), ⟨k1, k2, fun i hi => ?_⟩, shI_of i6 (fun q hq => e q (by omega) (by omega)), by rw [e 0 (by decide) (by decide)]; exact ⟨i7, i8, i9⟩⟩
    obtain ⟨m1, m2, m3, m4⟩ := k3 i hi
    have hi8 : i < 8 := Nat.lt_of_lt_of_le hi k2
    refine ⟨?_, m2, ?_, m4⟩
    · refine Eq.trans ?_ m1
      simp [f_copyK, cpRow, va_up, va_cpy, zup, hi8]
    · refine Eq.trans ?_ m3
      simp [f_copyK, cpRow, va_up, va_cpy, zup, hi8]
  · replace c37 := zb1.mp c37
    refine zJ_aload_n dX12_book_40 rfl ?_
    refine zP_getr lf_X12_12 (zSt_ob hs 0 12 rfl) rfl (zSt_rf hs 0 0 1 rfl) dX12_book_41 ?_
    refine zP_geti lf_X12_130 (zSt_ob hs 1 10 rfl) rfl dX12_book_44 ?_
    obtain ⟨q, rfl⟩ := toE_no c37
    rw [tX_k p2.1]
    refine zJ_bipush (v := nI 10) dX12_book_47 rfl ?_
    refine zJ_isub dX12_book_49 ?_
    refine zJ_iret rfl dX12_book_50 ?_
    obtain ⟨tp2, fl2⟩ := tX_tp p2.1
    have h9 := cI_tape hI (fun a q1 q2 q3 q4 _ => by rw [f2 a q1 (by omega) (by omega) (by omega), h1.1 a q1]) tp2 fl2
    exact ⟨_, J2, rfl, rfl, h9.2, rfl, h9.1⟩
end ZX12f
