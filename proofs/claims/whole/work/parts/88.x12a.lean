/-! ===== NegotiatedWires: told, net, place, cost, parent, dist, spared, fewest, fault, status, count ===== -/
section ZX12a
variable {l : Launch} {Xi : zXi} {d : Nat} {I : zI} {g : zG}
def toldV (S : sT) (k : Nat) : Int32 :=
  if k = 0 then nI (bC S.2.1) else if k = 1 then nI (bR S.2.1) else if k = 2 then nI (bN S.2.1) else if k = 3 then S.2.2.1 518 else if k = 4 then sJoin S.2.1 S.2.2.1 else if k = 5 then sOver S.2.1 S.2.2.1 else if k = 6 then (if sDone S.2.1 S.2.2.1 then 1 else 0) else if k = 7 then sLate S.2.1 S.2.2.1 else if k = 8 then sUses S.2.2.1 else if k = 9 then bgn S.2.1 else if k = 10 then nI S.2.2.2.1.length else if k = 11 then nI S.2.2.2.2.2.2.1 else sWal S.2.2.1
def netV (b : zWo) (R : rwT) (n k : Nat) : Int32 :=
  if k = 0 then R (512 + n) else if k = 1 then blm b n else if k = 2 then nI (bpc b n) else if k = 3 then cntF (tin R n) 64 else if k = 4 then sOvOf b R n else if k = 5 then sDel b R n else if k = 6 then blm b n - sDel b R n else if k = 7 then sLeaf b R n else if k = 8 then sFork b R n else if k = 9 then sDeep b R n else (if jnd R (bpc b) (bpn b) n then 1 else 0)
def placeV (b : zWo) (R : rwT) (p k : Nat) : Int32 :=
  if k = 0 then nI (bwd b p) else if k = 1 then nI (usn R p) else if k = 2 then R (384 + p) else if k = 3 then R (448 + p) else if k = 4 then sNets b R p else if k = 5 then bitF (pbB b p) (bN b) else nI (ovN b R p)
theorem fQ_42 {J : zI} (h : ∃ f, J = va_up I 42 f) : fQ I J := by
  obtain ⟨f, rfl⟩ := h
  exact ⟨fun a _ _ _ q _ _ => va_up_row q, fun k _ => by rw [va_up_row (by decide)]⟩
theorem cQ {J : zI} {S : sT} (h : cI I g S) (hf : fQ I J) : cI J g S ∧ fC I J := ⟨cI_fQ h hf, fC_fQ hf⟩
theorem cX62 {J : zI} {S : sT} (h : cI I g S) (hf : fX 62 I J) (hR : zRow J 62 S.2.2.1) : cI J g S ∧ fC I J := by
  obtain ⟨h1, h2, h3, h4, h5, h6, h7⟩ := h
  have e : ∀ a, a ≠ 22 → a ≠ 24 → (a < 42 ∨ 48 < a) → (a < 62 ∨ 67 < a) → J a = I a := fun a q2 q3 q4 q5 => hf a q2 q3 (by omega) (by omega) (by omega) (by omega) (by omega) (by omega) q5
  exact ⟨⟨tp_of h1 (e 1 (by decide) (by decide) (by decide) (by decide)) (e 2 (by decide) (by decide) (by decide) (by decide)), by rw [e 1 (by decide) (by decide) (by decide) (by decide)]; exact h2, zWi_of h3 (fun a ha => e a (by omega) (by omega) (by omega) (by omega)), hR, zBk_of h5 (fun a q1 q2 => e a (by omega) (by omega) (by omega) (by omega)), shI_of h6 (fun q hq => e q (by omega) (by omega) (by omega) (by omega)), by rw [e 0 (by decide) (by decide) (by decide) (by decide)]; exact h7⟩, fun a h1 h2 => e a (by omega) (by omega) (by omega) (by omega)⟩
theorem cI_ctx {S : sT} (hI : cI I g S) (hok : okS S) : zWi I S.2.1 ∧ zRow I 62 S.2.2.1 ∧ okR S.2.1 S.2.2.1 ∧ wok S.2.2.1 ∧ wok (I (62 + 1)) ∧ bok (I 11) := ⟨hI.2.2.1, hI.2.2.2.1, hok.2.1, okR_wok hok.2.1, q_wok hok.2.1 hI.2.2.2.1, q_bok hI.2.2.1⟩
theorem k_what {w mo : Nat} (hw : w ≤ mo) (hm : mo < 100) : ¬ nI w < 0 ∧ nI w ≤ nI mo := ⟨nI_pos (by omega), (nI_leI (by omega) (by omega)).mpr hw⟩
set_option maxHeartbeats 1000000 in
theorem k_told (hl : l.stackTraces = false) (hd : 12 ≤ d) (hs : zSt g) {S : sT} (hI : cI I g S) (hok : okS S) {k : Nat} (hk : k ≤ 12) : zEi l Xi mX12_told d [.ref 0, .int (nI k)] I g (fun v J => v = toldV S k ∧ cI J g S ∧ fC I J) := by
  refine zC_of hl rfl rfl rfl (Nat.le_of_ble_eq_true rfl) (zav_r (zSt_ob hs 0 12 rfl).1 (zav_i zav_0)) ?_
  obtain ⟨hW, hR, hokR, hwk, hwI, hbk⟩ := cI_ctx hI hok
  have hI0 := hI
  obtain ⟨i1, i2, i3, i4, i5, i6, i7, i8, i9⟩ := hI0
  have hbd := hW.2.1
  have hkk : k = 0 ∨ k = 1 ∨ k = 2 ∨ k = 3 ∨ k = 4 ∨ k = 5 ∨ k = 6 ∨ k = 7 ∨ k = 8 ∨ k = 9 ∨ k = 10 ∨ k = 11 ∨ k = 12 := by omega
  rcases hkk with rfl | rfl | rfl | rfl | rfl | rfl | rfl | rfl | rfl | rfl | rfl | rfl | rfl
  · skip
    refine zJ_aload_n dX12_told_0 rfl ?_
    refine zJ_iload_n dX12_told_1 rfl ?_
    refine zJ_bipush (v := nI 12) dX12_told_2 rfl ?_
    refine zP_callVv [_, _] _ lv_X12_176 (k_needWhat (d := d - 1) hl (by omega) hs (k_what (by omega) (by omega))) (zSt_ob hs 0 12 rfl) rfl (by omega) (Nat.le_of_ble_eq_true rfl) rfl dX12_told_4 ?_
    refine zJ_iload_n dX12_told_7 rfl ?_
    refine zJ_tabIn 72 dX12_told_8 (by decide) (by decide) rfl (by decide) ?_
    refine zJ_aload_n dX12_told_72 rfl ?_
    refine zP_getr lf_X12_19 (zSt_ob hs 0 12 rfl) rfl (zSt_rf hs 0 1 3 rfl) dX12_told_73 ?_
    refine zP_geti lf_X12_179 (zSt_ob hs 3 0 rfl) rfl dX12_told_76 ?_
    refine zJ_iret rfl dX12_told_79 ?_
    exact ⟨_, I, rfl, rfl, hbd.1, cQ hI fQ_rfl⟩
  · skip
    refine zJ_aload_n dX12_told_0 rfl ?_
    refine zJ_iload_n dX12_told_1 rfl ?_
    refine zJ_bipush (v := nI 12) dX12_told_2 rfl ?_
    refine zP_callVv [_, _] _ lv_X12_176 (k_needWhat (d := d - 1) hl (by omega) hs (k_what (by omega) (by omega))) (zSt_ob hs 0 12 rfl) rfl (by omega) (Nat.le_of_ble_eq_true rfl) rfl dX12_told_4 ?_
    refine zJ_iload_n dX12_told_7 rfl ?_
    refine zJ_tabIn 80 dX12_told_8 (by decide) (by decide) rfl (by decide) ?_
    refine zJ_aload_n dX12_told_80 rfl ?_
    refine zP_getr lf_X12_19 (zSt_ob hs 0 12 rfl) rfl (zSt_rf hs 0 1 3 rfl) dX12_told_81 ?_
    refine zP_geti lf_X12_182 (zSt_ob hs 3 0 rfl) rfl dX12_told_84 ?_
    refine zJ_iret rfl dX12_told_87 ?_
    exact ⟨_, I, rfl, rfl, hbd.2.1, cQ hI fQ_rfl⟩
  · skip
    refine zJ_aload_n dX12_told_0 rfl ?_
    refine zJ_iload_n dX12_told_1 rfl ?_
    refine zJ_bipush (v := nI 12) dX12_told_2 rfl ?_
    refine zP_callVv [_, _] _ lv_X12_176 (k_needWhat (d := d - 1) hl (by omega) hs (k_what (by omega) (by omega))) (zSt_ob hs 0 12 rfl) rfl (by omega) (Nat.le_of_ble_eq_true rfl) rfl dX12_told_4 ?_
    refine zJ_iload_n dX12_told_7 rfl ?_
    refine zJ_tabIn 88 dX12_told_8 (by decide) (by decide) rfl (by decide) ?_
    refine zJ_aload_n dX12_told_88 rfl ?_
    refine zP_getr lf_X12_19 (zSt_ob hs 0 12 rfl) rfl (zSt_rf hs 0 1 3 rfl) dX12_told_89 ?_
    refine zP_geti lf_X12_136 (zSt_ob hs 3 0 rfl) rfl dX12_told_92 ?_
    refine zJ_iret rfl dX12_told_95 ?_
    exact ⟨_, I, rfl, rfl, hbd.2.2.1, cQ hI fQ_rfl⟩
  · skip
    refine zJ_aload_n dX12_told_0 rfl ?_
    refine zJ_iload_n dX12_told_1 rfl ?_
    refine zJ_bipush (v := nI 12) dX12_told_2 rfl ?_
    refine zP_callVv [_, _] _ lv_X12_176 (k_needWhat (d := d - 1) hl (by omega) hs (k_what (by omega) (by omega))) (zSt_ob hs 0 12 rfl) rfl (by omega) (Nat.le_of_ble_eq_true rfl) rfl dX12_told_4 ?_
    refine zJ_iload_n dX12_told_7 rfl ?_
    refine zJ_tabIn 96 dX12_told_8 (by decide) (by decide) rfl (by decide) ?_
    refine zJ_aload_n dX12_told_96 rfl ?_
    refine zP_getr lf_X12_97 (zSt_ob hs 0 12 rfl) rfl (zSt_rf hs 0 13 62 rfl) dX12_told_97 ?_
    refine zP_geti lf_X12_185 (zSt_ob hs 62 8 rfl) rfl dX12_told_100 ?_
    refine zJ_iret rfl dX12_told_103 ?_
    exact ⟨_, I, rfl, rfl, hR.2.2.2.2.2, cQ hI fQ_rfl⟩
  · skip
    refine zJ_aload_n dX12_told_0 rfl ?_
    refine zJ_iload_n dX12_told_1 rfl ?_
    refine zJ_bipush (v := nI 12) dX12_told_2 rfl ?_
    refine zP_callVv [_, _] _ lv_X12_176 (k_needWhat (d := d - 1) hl (by omega) hs (k_what (by omega) (by omega))) (zSt_ob hs 0 12 rfl) rfl (by omega) (Nat.le_of_ble_eq_true rfl) rfl dX12_told_4 ?_
    refine zJ_iload_n dX12_told_7 rfl ?_
    refine zJ_tabIn 104 dX12_told_8 (by decide) (by decide) rfl (by decide) ?_
    refine zJ_aload_n dX12_told_104 rfl ?_
    refine zP_getr lf_X12_58 (zSt_ob hs 0 12 rfl) rfl (zSt_rf hs 0 8 41 rfl) dX12_told_105 ?_
    refine zJ_aload_n dX12_told_108 rfl ?_
    refine zP_getr lf_X12_97 (zSt_ob hs 0 12 rfl) rfl (zSt_rf hs 0 13 62 rfl) dX12_told_109 ?_
    refine zP_callVi [_] _ lv_X12_188 (k_X9_joinedBits (d := d - 1) hl (by omega) hs hbd (zSt_state hs)) (zSt_ob hs 41 9 rfl) rfl (by omega) (Nat.le_of_ble_eq_true rfl) rfl dX12_told_112 ?_
    refine zJ_iret rfl dX12_told_115 ?_
    exact ⟨_, I, rfl, rfl, q_join hW hR, cQ hI fQ_rfl⟩
  · skip
    refine zJ_aload_n dX12_told_0 rfl ?_
    refine zJ_iload_n dX12_told_1 rfl ?_
    refine zJ_bipush (v := nI 12) dX12_told_2 rfl ?_
    refine zP_callVv [_, _] _ lv_X12_176 (k_needWhat (d := d - 1) hl (by omega) hs (k_what (by omega) (by omega))) (zSt_ob hs 0 12 rfl) rfl (by omega) (Nat.le_of_ble_eq_true rfl) rfl dX12_told_4 ?_
    refine zJ_iload_n dX12_told_7 rfl ?_
    refine zJ_tabIn 116 dX12_told_8 (by decide) (by decide) rfl (by decide) ?_
    refine zJ_aload_n dX12_told_116 rfl ?_
    refine zP_getr lf_X12_58 (zSt_ob hs 0 12 rfl) rfl (zSt_rf hs 0 8 41 rfl) dX12_told_117 ?_
    refine zJ_aload_n dX12_told_120 rfl ?_
    refine zP_getr lf_X12_97 (zSt_ob hs 0 12 rfl) rfl (zSt_rf hs 0 13 62 rfl) dX12_told_121 ?_
    refine zP_callVi [_] _ lv_X12_192 (k_X9_overPlaces (d := d - 1) hl (by omega) hs (zSt_state hs)) (zSt_ob hs 41 9 rfl) rfl (by omega) (Nat.le_of_ble_eq_true rfl) rfl dX12_told_124 ?_
    refine zJ_iret rfl dX12_told_127 ?_
    exact ⟨_, I, rfl, rfl, q_over hW hR, cQ hI fQ_rfl⟩
  · skip
    refine zJ_aload_n dX12_told_0 rfl ?_
    refine zJ_iload_n dX12_told_1 rfl ?_
    refine zJ_bipush (v := nI 12) dX12_told_2 rfl ?_
    refine zP_callVv [_, _] _ lv_X12_176 (k_needWhat (d := d - 1) hl (by omega) hs (k_what (by omega) (by omega))) (zSt_ob hs 0 12 rfl) rfl (by omega) (Nat.le_of_ble_eq_true rfl) rfl dX12_told_4 ?_
    refine zJ_iload_n dX12_told_7 rfl ?_
    refine zJ_tabIn 128 dX12_told_8 (by decide) (by decide) rfl (by decide) ?_
    refine zJ_aload_n dX12_told_128 rfl ?_
    refine zP_getr lf_X12_58 (zSt_ob hs 0 12 rfl) rfl (zSt_rf hs 0 8 41 rfl) dX12_told_129 ?_
    refine zJ_aload_n dX12_told_132 rfl ?_
    refine zP_getr lf_X12_97 (zSt_ob hs 0 12 rfl) rfl (zSt_rf hs 0 13 62 rfl) dX12_told_133 ?_
    refine zP_callVi [_] _ lv_X12_195 (k_X9_allIsDone (d := d - 1) hl (by omega) hs hbd (zSt_state hs)) (zSt_ob hs 41 9 rfl) rfl (by omega) (Nat.le_of_ble_eq_true rfl) rfl dX12_told_136 ?_
    rw [q_done hW hR]
    refine zJ_if_eq 146 dX12_told_139 (by decide) (fun c139 => ?_) (fun c139 => ?_)
    · replace c139 := zb0.mp c139
      refine zJ_iconst (v := nI 0) dX12_told_146 rfl ?_
      refine zJ_iret rfl dX12_told_147 ?_
      exact ⟨_, I, rfl, rfl, by show _ = if sDone S.2.1 S.2.2.1 then (1 : Int32) else 0; rw [c139]; rfl, cQ hI fQ_rfl⟩
    · replace c139 := zb1.mp c139
      refine zJ_iconst (v := nI 1) dX12_told_142 rfl ?_
      refine zJ_goto 147 dX12_told_143 (by decide) ?_
      refine zJ_iret rfl dX12_told_147 ?_
      exact ⟨_, I, rfl, rfl, by show _ = if sDone S.2.1 S.2.2.1 then (1 : Int32) else 0; rw [c139]; rfl, cQ hI fQ_rfl⟩
  · skip
    refine zJ_aload_n dX12_told_0 rfl ?_
    refine zJ_iload_n dX12_told_1 rfl ?_
    refine zJ_bipush (v := nI 12) dX12_told_2 rfl ?_
    refine zP_callVv [_, _] _ lv_X12_176 (k_needWhat (d := d - 1) hl (by omega) hs (k_what (by omega) (by omega))) (zSt_ob hs 0 12 rfl) rfl (by omega) (Nat.le_of_ble_eq_true rfl) rfl dX12_told_4 ?_
    refine zJ_iload_n dX12_told_7 rfl ?_
    refine zJ_tabIn 148 dX12_told_8 (by decide) (by decide) rfl (by decide) ?_
    refine zJ_aload_n dX12_told_148 rfl ?_
    refine zP_getr lf_X12_58 (zSt_ob hs 0 12 rfl) rfl (zSt_rf hs 0 8 41 rfl) dX12_told_149 ?_
    refine zJ_aload_n dX12_told_152 rfl ?_
    refine zP_getr lf_X12_97 (zSt_ob hs 0 12 rfl) rfl (zSt_rf hs 0 13 62 rfl) dX12_told_153 ?_
    refine zP_callVi [_] _ lv_X12_199 (k_X9_lateBits (d := d - 1) hl (by omega) hs hbd (zSt_state hs) hwI hbk) (zSt_ob hs 41 9 rfl) rfl (by omega) (Nat.le_of_ble_eq_true rfl) rfl dX12_told_156 ?_
    refine zJ_iret rfl dX12_told_159 ?_
    exact ⟨_, I, rfl, rfl, q_late hwk hW hR, cQ hI fQ_rfl⟩
  · skip
    refine zJ_aload_n dX12_told_0 rfl ?_
    refine zJ_iload_n dX12_told_1 rfl ?_
    refine zJ_bipush (v := nI 12) dX12_told_2 rfl ?_
    refine zP_callVv [_, _] _ lv_X12_176 (k_needWhat (d := d - 1) hl (by omega) hs (k_what (by omega) (by omega))) (zSt_ob hs 0 12 rfl) rfl (by omega) (Nat.le_of_ble_eq_true rfl) rfl dX12_told_4 ?_
    refine zJ_iload_n dX12_told_7 rfl ?_
    refine zJ_tabIn 160 dX12_told_8 (by decide) (by decide) rfl (by decide) ?_
    refine zJ_aload_n dX12_told_160 rfl ?_
    refine zP_getr lf_X12_58 (zSt_ob hs 0 12 rfl) rfl (zSt_rf hs 0 8 41 rfl) dX12_told_161 ?_
    refine zJ_aload_n dX12_told_164 rfl ?_
    refine zP_getr lf_X12_97 (zSt_ob hs 0 12 rfl) rfl (zSt_rf hs 0 13 62 rfl) dX12_told_165 ?_
    refine zP_callVi [_] _ lv_X12_202 (k_X9_usesTogether (d := d - 1) hl (by omega) hs (zSt_state hs)) (zSt_ob hs 41 9 rfl) rfl (by omega) (Nat.le_of_ble_eq_true rfl) rfl dX12_told_168 ?_
    refine zJ_iret rfl dX12_told_171 ?_
    exact ⟨_, I, rfl, rfl, q_uses hR, cQ hI fQ_rfl⟩
  · skip
    refine zJ_aload_n dX12_told_0 rfl ?_
    refine zJ_iload_n dX12_told_1 rfl ?_
    refine zJ_bipush (v := nI 12) dX12_told_2 rfl ?_
    refine zP_callVv [_, _] _ lv_X12_176 (k_needWhat (d := d - 1) hl (by omega) hs (k_what (by omega) (by omega))) (zSt_ob hs 0 12 rfl) rfl (by omega) (Nat.le_of_ble_eq_true rfl) rfl dX12_told_4 ?_
    refine zJ_iload_n dX12_told_7 rfl ?_
    refine zJ_tabIn 172 dX12_told_8 (by decide) (by decide) rfl (by decide) ?_
    refine zJ_aload_n dX12_told_172 rfl ?_
    refine zP_getr lf_X12_19 (zSt_ob hs 0 12 rfl) rfl (zSt_rf hs 0 1 3 rfl) dX12_told_173 ?_
    refine zP_geti lf_X12_205 (zSt_ob hs 3 0 rfl) rfl dX12_told_176 ?_
    refine zJ_iret rfl dX12_told_179 ?_
    exact ⟨_, I, rfl, rfl, hW.2.2.1, cQ hI fQ_rfl⟩
  · skip
    refine zJ_aload_n dX12_told_0 rfl ?_
    refine zJ_iload_n dX12_told_1 rfl ?_
    refine zJ_bipush (v := nI 12) dX12_told_2 rfl ?_
    refine zP_callVv [_, _] _ lv_X12_176 (k_needWhat (d := d - 1) hl (by omega) hs (k_what (by omega) (by omega))) (zSt_ob hs 0 12 rfl) rfl (by omega) (Nat.le_of_ble_eq_true rfl) rfl dX12_told_4 ?_
    refine zJ_iload_n dX12_told_7 rfl ?_
    refine zJ_tabIn 180 dX12_told_8 (by decide) (by decide) rfl (by decide) ?_
    refine zJ_aload_n dX12_told_180 rfl ?_
    refine zP_getr lf_X12_39 (zSt_ob hs 0 12 rfl) rfl (zSt_rf hs 0 5 29 rfl) dX12_told_181 ?_
    refine zP_geti lf_X12_167 (zSt_ob hs 29 1 rfl) rfl dX12_told_184 ?_
    refine zJ_iret rfl dX12_told_187 ?_
    exact ⟨_, I, rfl, rfl, i5.1, cQ hI fQ_rfl⟩
  · skip
    refine zJ_aload_n dX12_told_0 rfl ?_
    refine zJ_iload_n dX12_told_1 rfl ?_
    refine zJ_bipush (v := nI 12) dX12_told_2 rfl ?_
    refine zP_callVv [_, _] _ lv_X12_176 (k_needWhat (d := d - 1) hl (by omega) hs (k_what (by omega) (by omega))) (zSt_ob hs 0 12 rfl) rfl (by omega) (Nat.le_of_ble_eq_true rfl) rfl dX12_told_4 ?_
    refine zJ_iload_n dX12_told_7 rfl ?_
    refine zJ_tabIn 188 dX12_told_8 (by decide) (by decide) rfl (by decide) ?_
    refine zJ_aload_n dX12_told_188 rfl ?_
    refine zP_geti lf_X12_160 (zSt_ob hs 0 12 rfl) rfl dX12_told_189 ?_
    refine zJ_iret rfl dX12_told_192 ?_
    exact ⟨_, I, rfl, rfl, i7, cQ hI fQ_rfl⟩
  · skip
    refine zJ_aload_n dX12_told_0 rfl ?_
    refine zJ_iload_n dX12_told_1 rfl ?_
    refine zJ_bipush (v := nI 12) dX12_told_2 rfl ?_
    refine zP_callVv [_, _] _ lv_X12_176 (k_needWhat (d := d - 1) hl (by omega) hs (k_what (by omega) (by omega))) (zSt_ob hs 0 12 rfl) rfl (by omega) (Nat.le_of_ble_eq_true rfl) rfl dX12_told_4 ?_
    refine zJ_iload_n dX12_told_7 rfl ?_
    refine zJ_tabOut 193 dX12_told_8 (Or.inr (by decide)) (by decide) ?_
    refine zJ_aload_n dX12_told_193 rfl ?_
    refine zP_getr lf_X12_58 (zSt_ob hs 0 12 rfl) rfl (zSt_rf hs 0 8 41 rfl) dX12_told_194 ?_
    refine zJ_aload_n dX12_told_197 rfl ?_
    refine zP_getr lf_X12_97 (zSt_ob hs 0 12 rfl) rfl (zSt_rf hs 0 13 62 rfl) dX12_told_198 ?_
    refine zP_callVi [_] _ lv_X12_208 (k_X9_wallPlaces (d := d - 1) hl (by omega) hs (zSt_state hs)) (zSt_ob hs 41 9 rfl) rfl (by omega) (Nat.le_of_ble_eq_true rfl) rfl dX12_told_201 ?_
    refine zJ_iret rfl dX12_told_204 ?_
    exact ⟨_, I, rfl, rfl, q_wal hR, cQ hI fQ_rfl⟩
set_option maxHeartbeats 1000000 in
theorem k_net (hl : l.stackTraces = false) (hd : 12 ≤ d) (hs : zSt g) {S : sT} (hI : cI I g S) (hok : okS S) {n k : Nat} (hn : n < bN S.2.1) (hk : k ≤ 10) : zEi l Xi mX12_net d [.ref 0, .int (nI n), .int (nI k)] I g (fun v J => v = netV S.2.1 S.2.2.1 n k ∧ cI J g S ∧ fC I J) := by
  refine zC_of hl rfl rfl rfl (Nat.le_of_ble_eq_true rfl) (zav_r (zSt_ob hs 0 12 rfl).1 (zav_i (zav_i zav_0))) ?_
  obtain ⟨hW, hR, hokR, hwk, hwI, hbk⟩ := cI_ctx hI hok
  have hbd := hW.2.1
  have hN6 := hW.1.2.2.2.2.1
  have hn6 : n < 6 := by omega
  have hnet : ¬ nI n < 0 ∧ nI n < I 3 2 := ⟨nI_pos (by omega), by rw [hbd.2.2.1]; exact nI_lt hn (by omega)⟩
  have hkk : k = 0 ∨ k = 1 ∨ k = 2 ∨ k = 3 ∨ k = 4 ∨ k = 5 ∨ k = 6 ∨ k = 7 ∨ k = 8 ∨ k = 9 ∨ k = 10 := by omega
  rcases hkk with rfl | rfl | rfl | rfl | rfl | rfl | rfl | rfl | rfl | rfl | rfl
  · skip
    refine zJ_aload_n dX12_net_0 rfl ?_
    refine zJ_iload_n dX12_net_1 rfl ?_
    refine zP_callVv [_] _ lv_X12_211 (k_needNet (d := d - 1) hl (by omega) hs hnet) (zSt_ob hs 0 12 rfl) rfl (by omega) (Nat.le_of_ble_eq_true rfl) rfl dX12_net_2 ?_
    refine zJ_aload_n dX12_net_5 rfl ?_
    refine zJ_iload_n dX12_net_6 rfl ?_
    refine zJ_bipush (v := nI 10) dX12_net_7 rfl ?_
    refine zP_callVv [_, _] _ lv_X12_176 (k_needWhat (d := d - 1) hl (by omega) hs (k_what (by omega) (by omega))) (zSt_ob hs 0 12 rfl) rfl (by omega) (Nat.le_of_ble_eq_true rfl) rfl dX12_net_9 ?_
    refine zJ_iload_n dX12_net_12 rfl ?_
    refine zJ_tabIn 68 dX12_net_13 (by decide) (by decide) rfl (by decide) ?_
    refine zJ_aload_n dX12_net_68 rfl ?_
    refine zP_getr lf_X12_97 (zSt_ob hs 0 12 rfl) rfl (zSt_rf hs 0 13 62 rfl) dX12_net_69 ?_
    refine zP_getr lf_X12_214 (zSt_ob hs 62 8 rfl) rfl (zSt_rf hs 62 4 67 rfl) dX12_net_72 ?_
    refine zJ_iload_n dX12_net_75 rfl ?_
    refine zP_iald (zSt_ar hs 67 6 rfl) (by first | assumption | with_reducible exact vp_in_nI (by omega) (by omega) | (simp (disch := omega) only [nI_add, pk_mul, pk_sub, pk_div, pk_rem, nI_clamp]; with_reducible exact vp_in_nI (by omega) (by omega))) dX12_net_76 ?_
    rw [nI_clamp (by omega)]
    refine zJ_iret rfl dX12_net_77 ?_
    exact ⟨_, I, rfl, rfl, hR.2.2.2.2.1 n hn6, cQ hI fQ_rfl⟩
  · skip
    refine zJ_aload_n dX12_net_0 rfl ?_
    refine zJ_iload_n dX12_net_1 rfl ?_
    refine zP_callVv [_] _ lv_X12_211 (k_needNet (d := d - 1) hl (by omega) hs hnet) (zSt_ob hs 0 12 rfl) rfl (by omega) (Nat.le_of_ble_eq_true rfl) rfl dX12_net_2 ?_
    refine zJ_aload_n dX12_net_5 rfl ?_
    refine zJ_iload_n dX12_net_6 rfl ?_
    refine zJ_bipush (v := nI 10) dX12_net_7 rfl ?_
    refine zP_callVv [_, _] _ lv_X12_176 (k_needWhat (d := d - 1) hl (by omega) hs (k_what (by omega) (by omega))) (zSt_ob hs 0 12 rfl) rfl (by omega) (Nat.le_of_ble_eq_true rfl) rfl dX12_net_9 ?_
    refine zJ_iload_n dX12_net_12 rfl ?_
    refine zJ_tabIn 78 dX12_net_13 (by decide) (by decide) rfl (by decide) ?_
    refine zJ_aload_n dX12_net_78 rfl ?_
    refine zP_getr lf_X12_19 (zSt_ob hs 0 12 rfl) rfl (zSt_rf hs 0 1 3 rfl) dX12_net_79 ?_
    refine zP_getr lf_X12_218 (zSt_ob hs 3 0 rfl) rfl (zSt_rf hs 3 5 5 rfl) dX12_net_82 ?_
    refine zJ_iload_n dX12_net_85 rfl ?_
    refine zP_iald (zSt_ar hs 5 6 rfl) (by first | assumption | with_reducible exact vp_in_nI (by omega) (by omega) | (simp (disch := omega) only [nI_add, pk_mul, pk_sub, pk_div, pk_rem, nI_clamp]; with_reducible exact vp_in_nI (by omega) (by omega))) dX12_net_86 ?_
    rw [nI_clamp (by omega)]
    refine zJ_iret rfl dX12_net_87 ?_
    exact ⟨_, I, rfl, rfl, hW.2.2.2.1 n hn6, cQ hI fQ_rfl⟩
  · skip
    refine zJ_aload_n dX12_net_0 rfl ?_
    refine zJ_iload_n dX12_net_1 rfl ?_
    refine zP_callVv [_] _ lv_X12_211 (k_needNet (d := d - 1) hl (by omega) hs hnet) (zSt_ob hs 0 12 rfl) rfl (by omega) (Nat.le_of_ble_eq_true rfl) rfl dX12_net_2 ?_
    refine zJ_aload_n dX12_net_5 rfl ?_
    refine zJ_iload_n dX12_net_6 rfl ?_
    refine zJ_bipush (v := nI 10) dX12_net_7 rfl ?_
    refine zP_callVv [_, _] _ lv_X12_176 (k_needWhat (d := d - 1) hl (by omega) hs (k_what (by omega) (by omega))) (zSt_ob hs 0 12 rfl) rfl (by omega) (Nat.le_of_ble_eq_true rfl) rfl dX12_net_9 ?_
    refine zJ_iload_n dX12_net_12 rfl ?_
    refine zJ_tabIn 88 dX12_net_13 (by decide) (by decide) rfl (by decide) ?_
    refine zJ_aload_n dX12_net_88 rfl ?_
    refine zP_getr lf_X12_19 (zSt_ob hs 0 12 rfl) rfl (zSt_rf hs 0 1 3 rfl) dX12_net_89 ?_
    refine zP_getr lf_X12_221 (zSt_ob hs 3 0 rfl) rfl (zSt_rf hs 3 6 6 rfl) dX12_net_92 ?_
    refine zJ_iload_n dX12_net_95 rfl ?_
    refine zP_iald (zSt_ar hs 6 6 rfl) (by first | assumption | with_reducible exact vp_in_nI (by omega) (by omega) | (simp (disch := omega) only [nI_add, pk_mul, pk_sub, pk_div, pk_rem, nI_clamp]; with_reducible exact vp_in_nI (by omega) (by omega))) dX12_net_96 ?_
    rw [nI_clamp (by omega)]
    refine zJ_iret rfl dX12_net_97 ?_
    exact ⟨_, I, rfl, rfl, (hbd.2.2.2.2.2.2.1 n hn6).1, cQ hI fQ_rfl⟩
  · skip
    refine zJ_aload_n dX12_net_0 rfl ?_
    refine zJ_iload_n dX12_net_1 rfl ?_
    refine zP_callVv [_] _ lv_X12_211 (k_needNet (d := d - 1) hl (by omega) hs hnet) (zSt_ob hs 0 12 rfl) rfl (by omega) (Nat.le_of_ble_eq_true rfl) rfl dX12_net_2 ?_
    refine zJ_aload_n dX12_net_5 rfl ?_
    refine zJ_iload_n dX12_net_6 rfl ?_
    refine zJ_bipush (v := nI 10) dX12_net_7 rfl ?_
    refine zP_callVv [_, _] _ lv_X12_176 (k_needWhat (d := d - 1) hl (by omega) hs (k_what (by omega) (by omega))) (zSt_ob hs 0 12 rfl) rfl (by omega) (Nat.le_of_ble_eq_true rfl) rfl dX12_net_9 ?_
    refine zJ_iload_n dX12_net_12 rfl ?_
    refine zJ_tabIn 98 dX12_net_13 (by decide) (by decide) rfl (by decide) ?_
    refine zJ_aload_n dX12_net_98 rfl ?_
    refine zP_getr lf_X12_97 (zSt_ob hs 0 12 rfl) rfl (zSt_rf hs 0 13 62 rfl) dX12_net_99 ?_
    refine zJ_iload_n dX12_net_102 rfl ?_
    refine zP_callVi [_] _ lv_X12_224 (k_X8_sizeOf (d := d - 1) hl (by omega) (zSt_state hs) hn6) (zSt_ob hs 62 8 rfl) rfl (by omega) (Nat.le_of_ble_eq_true rfl) rfl dX12_net_103 ?_
    refine zJ_iret rfl dX12_net_106 ?_
    exact ⟨_, I, rfl, rfl, q_size hR hn6, cQ hI fQ_rfl⟩
  · skip
    refine zJ_aload_n dX12_net_0 rfl ?_
    refine zJ_iload_n dX12_net_1 rfl ?_
    refine zP_callVv [_] _ lv_X12_211 (k_needNet (d := d - 1) hl (by omega) hs hnet) (zSt_ob hs 0 12 rfl) rfl (by omega) (Nat.le_of_ble_eq_true rfl) rfl dX12_net_2 ?_
    refine zJ_aload_n dX12_net_5 rfl ?_
    refine zJ_iload_n dX12_net_6 rfl ?_
    refine zJ_bipush (v := nI 10) dX12_net_7 rfl ?_
    refine zP_callVv [_, _] _ lv_X12_176 (k_needWhat (d := d - 1) hl (by omega) hs (k_what (by omega) (by omega))) (zSt_ob hs 0 12 rfl) rfl (by omega) (Nat.le_of_ble_eq_true rfl) rfl dX12_net_9 ?_
    refine zJ_iload_n dX12_net_12 rfl ?_
    refine zJ_tabIn 107 dX12_net_13 (by decide) (by decide) rfl (by decide) ?_
    refine zJ_aload_n dX12_net_107 rfl ?_
    refine zP_getr lf_X12_58 (zSt_ob hs 0 12 rfl) rfl (zSt_rf hs 0 8 41 rfl) dX12_net_108 ?_
    refine zJ_aload_n dX12_net_111 rfl ?_
    refine zP_getr lf_X12_97 (zSt_ob hs 0 12 rfl) rfl (zSt_rf hs 0 13 62 rfl) dX12_net_112 ?_
    refine zJ_iload_n dX12_net_115 rfl ?_
    refine zP_callVi [_, _] _ lv_X12_228 (k_X9_overPlacesOf (d := d - 1) hl (by omega) hs (zSt_state hs) hn6) (zSt_ob hs 41 9 rfl) rfl (by omega) (Nat.le_of_ble_eq_true rfl) rfl dX12_net_116 ?_
    refine zJ_iret rfl dX12_net_119 ?_
    exact ⟨_, I, rfl, rfl, q_ovOf hW hR hn6, cQ hI fQ_rfl⟩
  · skip
    refine zJ_aload_n dX12_net_0 rfl ?_
    refine zJ_iload_n dX12_net_1 rfl ?_
    refine zP_callVv [_] _ lv_X12_211 (k_needNet (d := d - 1) hl (by omega) hs hnet) (zSt_ob hs 0 12 rfl) rfl (by omega) (Nat.le_of_ble_eq_true rfl) rfl dX12_net_2 ?_
    refine zJ_aload_n dX12_net_5 rfl ?_
    refine zJ_iload_n dX12_net_6 rfl ?_
    refine zJ_bipush (v := nI 10) dX12_net_7 rfl ?_
    refine zP_callVv [_, _] _ lv_X12_176 (k_needWhat (d := d - 1) hl (by omega) hs (k_what (by omega) (by omega))) (zSt_ob hs 0 12 rfl) rfl (by omega) (Nat.le_of_ble_eq_true rfl) rfl dX12_net_9 ?_
    refine zJ_iload_n dX12_net_12 rfl ?_
    refine zJ_tabIn 120 dX12_net_13 (by decide) (by decide) rfl (by decide) ?_
    refine zJ_aload_n dX12_net_120 rfl ?_
    refine zP_getr lf_X12_58 (zSt_ob hs 0 12 rfl) rfl (zSt_rf hs 0 8 41 rfl) dX12_net_121 ?_
    refine zJ_aload_n dX12_net_124 rfl ?_
    refine zP_getr lf_X12_97 (zSt_ob hs 0 12 rfl) rfl (zSt_rf hs 0 13 62 rfl) dX12_net_125 ?_
    refine zJ_iload_n dX12_net_128 rfl ?_
    refine zP_callVi [_, _] _ lv_X12_232 (k_X9_delayOf (d := d - 1) hl (by omega) hs hbd (zSt_state hs) hwI hbk hn6) (zSt_ob hs 41 9 rfl) rfl (by omega) (Nat.le_of_ble_eq_true rfl) rfl dX12_net_129 ?_
    refine zJ_iret rfl dX12_net_132 ?_
    exact ⟨_, I, rfl, rfl, q_del hwk hW hR hn6, cQ hI fQ_rfl⟩
  · skip
    refine zJ_aload_n dX12_net_0 rfl ?_
    refine zJ_iload_n dX12_net_1 rfl ?_
    refine zP_callVv [_] _ lv_X12_211 (k_needNet (d := d - 1) hl (by omega) hs hnet) (zSt_ob hs 0 12 rfl) rfl (by omega) (Nat.le_of_ble_eq_true rfl) rfl dX12_net_2 ?_
    refine zJ_aload_n dX12_net_5 rfl ?_
    refine zJ_iload_n dX12_net_6 rfl ?_
    refine zJ_bipush (v := nI 10) dX12_net_7 rfl ?_
    refine zP_callVv [_, _] _ lv_X12_176 (k_needWhat (d := d - 1) hl (by omega) hs (k_what (by omega) (by omega))) (zSt_ob hs 0 12 rfl) rfl (by omega) (Nat.le_of_ble_eq_true rfl) rfl dX12_net_9 ?_
    refine zJ_iload_n dX12_net_12 rfl ?_
    refine zJ_tabIn 133 dX12_net_13 (by decide) (by decide) rfl (by decide) ?_
    refine zJ_aload_n dX12_net_133 rfl ?_
    refine zP_getr lf_X12_19 (zSt_ob hs 0 12 rfl) rfl (zSt_rf hs 0 1 3 rfl) dX12_net_134 ?_
    refine zP_getr lf_X12_218 (zSt_ob hs 3 0 rfl) rfl (zSt_rf hs 3 5 5 rfl) dX12_net_137 ?_
    refine zJ_iload_n dX12_net_140 rfl ?_
    refine zP_iald (zSt_ar hs 5 6 rfl) (by first | assumption | with_reducible exact vp_in_nI (by omega) (by omega) | (simp (disch := omega) only [nI_add, pk_mul, pk_sub, pk_div, pk_rem, nI_clamp]; with_reducible exact vp_in_nI (by omega) (by omega))) dX12_net_141 ?_
    rw [nI_clamp (by omega), hW.2.2.2.1 n hn6]
    refine zJ_aload_n dX12_net_142 rfl ?_
    refine zP_getr lf_X12_58 (zSt_ob hs 0 12 rfl) rfl (zSt_rf hs 0 8 41 rfl) dX12_net_143 ?_
    refine zJ_aload_n dX12_net_146 rfl ?_
    refine zP_getr lf_X12_97 (zSt_ob hs 0 12 rfl) rfl (zSt_rf hs 0 13 62 rfl) dX12_net_147 ?_
    refine zJ_iload_n dX12_net_150 rfl ?_
    refine zP_callVi [_, _] _ lv_X12_232 (k_X9_delayOf (d := d - 1) hl (by omega) hs hbd (zSt_state hs) hwI hbk hn6) (zSt_ob hs 41 9 rfl) rfl (by omega) (Nat.le_of_ble_eq_true rfl) rfl dX12_net_151 ?_
    rw [q_del hwk hW hR hn6]
    refine zJ_isub dX12_net_154 ?_
    refine zJ_iret rfl dX12_net_155 ?_
    exact ⟨_, I, rfl, rfl, rfl, cQ hI fQ_rfl⟩
  · skip
    refine zJ_aload_n dX12_net_0 rfl ?_
    refine zJ_iload_n dX12_net_1 rfl ?_
    refine zP_callVv [_] _ lv_X12_211 (k_needNet (d := d - 1) hl (by omega) hs hnet) (zSt_ob hs 0 12 rfl) rfl (by omega) (Nat.le_of_ble_eq_true rfl) rfl dX12_net_2 ?_
    refine zJ_aload_n dX12_net_5 rfl ?_
    refine zJ_iload_n dX12_net_6 rfl ?_
    refine zJ_bipush (v := nI 10) dX12_net_7 rfl ?_
    refine zP_callVv [_, _] _ lv_X12_176 (k_needWhat (d := d - 1) hl (by omega) hs (k_what (by omega) (by omega))) (zSt_ob hs 0 12 rfl) rfl (by omega) (Nat.le_of_ble_eq_true rfl) rfl dX12_net_9 ?_
    refine zJ_iload_n dX12_net_12 rfl ?_
    refine zJ_tabIn 156 dX12_net_13 (by decide) (by decide) rfl (by decide) ?_
    refine zJ_aload_n dX12_net_156 rfl ?_
    refine zP_getr lf_X12_58 (zSt_ob hs 0 12 rfl) rfl (zSt_rf hs 0 8 41 rfl) dX12_net_157 ?_
    refine zJ_aload_n dX12_net_160 rfl ?_
    refine zP_getr lf_X12_97 (zSt_ob hs 0 12 rfl) rfl (zSt_rf hs 0 13 62 rfl) dX12_net_161 ?_
    refine zJ_iload_n dX12_net_164 rfl ?_
    refine zP_ecallVi [_, _] _ lv_X12_235 (k_X9_leavesOf (d := d - 1) hl (by omega) hs (zSt_state hs) (by decide) hwI hbk hn6) (zSt_ob hs 41 9 rfl) rfl (by omega) (Nat.le_of_ble_eq_true rfl) rfl dX12_net_165 (fun x J hx => ?_)
    refine zJ_iret rfl dX12_net_168 ?_
    exact ⟨_, J, rfl, rfl, hx.1.trans (q_leaf hwk hW hR hn6), cQ hI (fQ_42 hx.2)⟩
  · skip
    refine zJ_aload_n dX12_net_0 rfl ?_
    refine zJ_iload_n dX12_net_1 rfl ?_
    refine zP_callVv [_] _ lv_X12_211 (k_needNet (d := d - 1) hl (by omega) hs hnet) (zSt_ob hs 0 12 rfl) rfl (by omega) (Nat.le_of_ble_eq_true rfl) rfl dX12_net_2 ?_
    refine zJ_aload_n dX12_net_5 rfl ?_
    refine zJ_iload_n dX12_net_6 rfl ?_
    refine zJ_bipush (v := nI 10) dX12_net_7 rfl ?_
    refine zP_callVv [_, _] _ lv_X12_176 (k_needWhat (d := d - 1) hl (by omega) hs (k_what (by omega) (by omega))) (zSt_ob hs 0 12 rfl) rfl (by omega) (Nat.le_of_ble_eq_true rfl) rfl dX12_net_9 ?_
    refine zJ_iload_n dX12_net_12 rfl ?_
    refine zJ_tabIn 169 dX12_net_13 (by decide) (by decide) rfl (by decide) ?_
    refine zJ_aload_n dX12_net_169 rfl ?_
    refine zP_getr lf_X12_58 (zSt_ob hs 0 12 rfl) rfl (zSt_rf hs 0 8 41 rfl) dX12_net_170 ?_
    refine zJ_aload_n dX12_net_173 rfl ?_
    refine zP_getr lf_X12_97 (zSt_ob hs 0 12 rfl) rfl (zSt_rf hs 0 13 62 rfl) dX12_net_174 ?_
    refine zJ_iload_n dX12_net_177 rfl ?_
    refine zP_ecallVi [_, _] _ lv_X12_238 (k_X9_forksOf (d := d - 1) hl (by omega) hs (zSt_state hs) (by decide) hwI hbk hn6) (zSt_ob hs 41 9 rfl) rfl (by omega) (Nat.le_of_ble_eq_true rfl) rfl dX12_net_178 (fun x J hx => ?_)
    refine zJ_iret rfl dX12_net_181 ?_
    exact ⟨_, J, rfl, rfl, hx.1.trans (q_fork hwk hW hR hn6), cQ hI (fQ_42 hx.2)⟩
  · skip
    refine zJ_aload_n dX12_net_0 rfl ?_
    refine zJ_iload_n dX12_net_1 rfl ?_
    refine zP_callVv [_] _ lv_X12_211 (k_needNet (d := d - 1) hl (by omega) hs hnet) (zSt_ob hs 0 12 rfl) rfl (by omega) (Nat.le_of_ble_eq_true rfl) rfl dX12_net_2 ?_
    refine zJ_aload_n dX12_net_5 rfl ?_
    refine zJ_iload_n dX12_net_6 rfl ?_
    refine zJ_bipush (v := nI 10) dX12_net_7 rfl ?_
    refine zP_callVv [_, _] _ lv_X12_176 (k_needWhat (d := d - 1) hl (by omega) hs (k_what (by omega) (by omega))) (zSt_ob hs 0 12 rfl) rfl (by omega) (Nat.le_of_ble_eq_true rfl) rfl dX12_net_9 ?_
    refine zJ_iload_n dX12_net_12 rfl ?_
    refine zJ_tabIn 182 dX12_net_13 (by decide) (by decide) rfl (by decide) ?_
    refine zJ_aload_n dX12_net_182 rfl ?_
    refine zP_getr lf_X12_58 (zSt_ob hs 0 12 rfl) rfl (zSt_rf hs 0 8 41 rfl) dX12_net_183 ?_
    refine zJ_aload_n dX12_net_186 rfl ?_
    refine zP_getr lf_X12_97 (zSt_ob hs 0 12 rfl) rfl (zSt_rf hs 0 13 62 rfl) dX12_net_187 ?_
    refine zJ_iload_n dX12_net_190 rfl ?_
    refine zP_callVi [_, _] _ lv_X12_241 (k_X9_deepestOf (d := d - 1) hl (by omega) hs (zSt_state hs) hwI hbk hn6) (zSt_ob hs 41 9 rfl) rfl (by omega) (Nat.le_of_ble_eq_true rfl) rfl dX12_net_191 ?_
    refine zJ_iret rfl dX12_net_194 ?_
    exact ⟨_, I, rfl, rfl, (by rw [q_deep hwk hW hR hn6]; simp [netV]), cQ hI fQ_rfl⟩
  · skip
    refine zJ_aload_n dX12_net_0 rfl ?_
    refine zJ_iload_n dX12_net_1 rfl ?_
    refine zP_callVv [_] _ lv_X12_211 (k_needNet (d := d - 1) hl (by omega) hs hnet) (zSt_ob hs 0 12 rfl) rfl (by omega) (Nat.le_of_ble_eq_true rfl) rfl dX12_net_2 ?_
    refine zJ_aload_n dX12_net_5 rfl ?_
    refine zJ_iload_n dX12_net_6 rfl ?_
    refine zJ_bipush (v := nI 10) dX12_net_7 rfl ?_
    refine zP_callVv [_, _] _ lv_X12_176 (k_needWhat (d := d - 1) hl (by omega) hs (k_what (by omega) (by omega))) (zSt_ob hs 0 12 rfl) rfl (by omega) (Nat.le_of_ble_eq_true rfl) rfl dX12_net_9 ?_
    refine zJ_iload_n dX12_net_12 rfl ?_
    refine zJ_tabOut 195 dX12_net_13 (Or.inr (by decide)) (by decide) ?_
    refine zJ_aload_n dX12_net_195 rfl ?_
    refine zP_getr lf_X12_58 (zSt_ob hs 0 12 rfl) rfl (zSt_rf hs 0 8 41 rfl) dX12_net_196 ?_
    refine zJ_aload_n dX12_net_199 rfl ?_
    refine zP_getr lf_X12_97 (zSt_ob hs 0 12 rfl) rfl (zSt_rf hs 0 13 62 rfl) dX12_net_200 ?_
    refine zJ_iload_n dX12_net_203 rfl ?_
    refine zP_callVi [_, _] _ lv_X12_244 (k_X9_isJoined (d := d - 1) hl (by omega) hs hbd (zSt_state hs) hn6) (zSt_ob hs 41 9 rfl) rfl (by omega) (Nat.le_of_ble_eq_true rfl) rfl dX12_net_204 ?_
    rw [jnd_R hW hR hn6]
    refine zJ_if_eq 214 dX12_net_207 (by decide) (fun c207 => ?_) (fun c207 => ?_)
    · replace c207 := zb0.mp c207
      refine zJ_iconst (v := nI 0) dX12_net_214 rfl ?_
      refine zJ_iret rfl dX12_net_215 ?_
      exact ⟨_, I, rfl, rfl, by show _ = if jnd S.2.2.1 (bpc S.2.1) (bpn S.2.1) n then (1 : Int32) else 0; rw [c207]; rfl, cQ hI fQ_rfl⟩
    · replace c207 := zb1.mp c207
      refine zJ_iconst (v := nI 1) dX12_net_210 rfl ?_
      refine zJ_goto 215 dX12_net_211 (by decide) ?_
      refine zJ_iret rfl dX12_net_215 ?_
      exact ⟨_, I, rfl, rfl, by show _ = if jnd S.2.2.1 (bpc S.2.1) (bpn S.2.1) n then (1 : Int32) else 0; rw [c207]; rfl, cQ hI fQ_rfl⟩
theorem k_plc {S : sT} (hI : cI I g S) {x y : Nat} (hx : x < bC S.2.1) (hy : y < bR S.2.1) : ¬ nI x < 0 ∧ ¬ I 3 0 ≤ nI x ∧ ¬ nI y < 0 ∧ nI y < I 3 1 := by
  have hW := hI.2.2.1
  have hC := hW.1.2.1
  have hR := hW.1.2.2.2.1
  exact ⟨nI_pos (by omega), by rw [hW.2.1.1]; exact nI_ge hx (by omega), nI_pos (by omega), by rw [hW.2.1.2.1]; exact nI_lt hy (by omega)⟩
theorem k_ntt {S : sT} (hI : cI I g S) {n : Nat} (hn : n < bN S.2.1) : ¬ nI n < 0 ∧ nI n < I 3 2 := by
  have hN := hI.2.2.1.1.2.2.2.2.1
  exact ⟨nI_pos (by omega), by rw [hI.2.2.1.2.1.2.2.1]; exact nI_lt hn (by omega)⟩
theorem k_rww {S : sT} (hI : cI I g S) {y : Nat} (hy : y < bR S.2.1) : ¬ nI y < 0 ∧ nI y < I 3 1 := by
  have hR := hI.2.2.1.1.2.2.2.1
  exact ⟨nI_pos (by omega), by rw [hI.2.2.1.2.1.2.1]; exact nI_lt hy (by omega)⟩
set_option maxHeartbeats 1000000 in
theorem k_place (hl : l.stackTraces = false) (hd : 12 ≤ d) (hs : zSt g) {S : sT} (hI : cI I g S) (hok : okS S) {x y k : Nat} (hx : x < bC S.2.1) (hy : y < bR S.2.1) (hk : k ≤ 6) : zEi l Xi mX12_place d [.ref 0, .int (nI x), .int (nI y), .int (nI k)] I g (fun v J => v = placeV S.2.1 S.2.2.1 (y * 8 + x) k ∧ cI J g S ∧ fC I J) := by
  refine zC_of hl rfl rfl rfl (Nat.le_of_ble_eq_true rfl) (zav_r (zSt_ob hs 0 12 rfl).1 (zav_i (zav_i (zav_i zav_0)))) ?_
  obtain ⟨hW, hR, hokR, hwk, hwI, hbk⟩ := cI_ctx hI hok
  have hbd := hW.2.1
  have hC8 := hW.1.2.1
  have hR8 := hW.1.2.2.2.1
  have hp : y * 8 + x < 64 := by omega
  have hkk : k = 0 ∨ k = 1 ∨ k = 2 ∨ k = 3 ∨ k = 4 ∨ k = 5 ∨ k = 6 := by omega
  rcases hkk with rfl | rfl | rfl | rfl | rfl | rfl | rfl
  · skip
    refine zJ_aload_n dX12_place_0 rfl ?_
    refine zJ_iload_n dX12_place_1 rfl ?_
    refine zJ_iload_n dX12_place_2 rfl ?_
    refine zP_callVv [_, _] _ lv_X12_248 (k_needPlace (d := d - 1) hl (by omega) hs (k_plc hI hx hy)) (zSt_ob hs 0 12 rfl) rfl (by omega) (Nat.le_of_ble_eq_true rfl) rfl dX12_place_3 ?_
    refine zJ_aload_n dX12_place_6 rfl ?_
    refine zJ_iload_n dX12_place_7 rfl ?_
    refine zJ_bipush (v := nI 6) dX12_place_8 rfl ?_
    refine zP_callVv [_, _] _ lv_X12_176 (k_needWhat (d := d - 1) hl (by omega) hs (k_what (by omega) (by omega))) (zSt_ob hs 0 12 rfl) rfl (by omega) (Nat.le_of_ble_eq_true rfl) rfl dX12_place_10 ?_
    refine zJ_iload_n dX12_place_13 rfl ?_
    refine zJ_bipush (v := nI 8) dX12_place_14 rfl ?_
    refine zJ_imul dX12_place_16 ?_
    refine zJ_iload_n dX12_place_17 rfl ?_
    refine zJ_iadd dX12_place_18 ?_
    rw [pk_mul, nI_add]
    refine zJ_istore dX12_place_19 (Nat.le_of_ble_eq_true rfl) (by decide) ?_
    refine zJ_iload_n dX12_place_21 rfl ?_
    refine zJ_tabIn 60 dX12_place_22 (by decide) (by decide) rfl (by decide) ?_
    refine zJ_aload_n dX12_place_60 rfl ?_
    refine zP_getr lf_X12_19 (zSt_ob hs 0 12 rfl) rfl (zSt_rf hs 0 1 3 rfl) dX12_place_61 ?_
    refine zP_getr lf_X12_251 (zSt_ob hs 3 0 rfl) rfl (zSt_rf hs 3 9 9 rfl) dX12_place_64 ?_
    refine zJ_iload dX12_place_67 rfl ?_
    refine zP_iald (zSt_ar hs 9 64 rfl) (by first | assumption | with_reducible exact vp_in_nI (by omega) (by omega) | (simp (disch := omega) only [nI_add, pk_mul, pk_sub, pk_div, pk_rem, nI_clamp]; with_reducible exact vp_in_nI (by omega) (by omega))) dX12_place_69 ?_
    rw [nI_clamp (by omega)]
    refine zJ_iret rfl dX12_place_70 ?_
    exact ⟨_, I, rfl, rfl, hW.2.2.2.2.1 _ hp, cQ hI fQ_rfl⟩
  · skip
    refine zJ_aload_n dX12_place_0 rfl ?_
    refine zJ_iload_n dX12_place_1 rfl ?_
    refine zJ_iload_n dX12_place_2 rfl ?_
    refine zP_callVv [_, _] _ lv_X12_248 (k_needPlace (d := d - 1) hl (by omega) hs (k_plc hI hx hy)) (zSt_ob hs 0 12 rfl) rfl (by omega) (Nat.le_of_ble_eq_true rfl) rfl dX12_place_3 ?_
    refine zJ_aload_n dX12_place_6 rfl ?_
    refine zJ_iload_n dX12_place_7 rfl ?_
    refine zJ_bipush (v := nI 6) dX12_place_8 rfl ?_
    refine zP_callVv [_, _] _ lv_X12_176 (k_needWhat (d := d - 1) hl (by omega) hs (k_what (by omega) (by omega))) (zSt_ob hs 0 12 rfl) rfl (by omega) (Nat.le_of_ble_eq_true rfl) rfl dX12_place_10 ?_
    refine zJ_iload_n dX12_place_13 rfl ?_
    refine zJ_bipush (v := nI 8) dX12_place_14 rfl ?_
    refine zJ_imul dX12_place_16 ?_
    refine zJ_iload_n dX12_place_17 rfl ?_
    refine zJ_iadd dX12_place_18 ?_
    rw [pk_mul, nI_add]
    refine zJ_istore dX12_place_19 (Nat.le_of_ble_eq_true rfl) (by decide) ?_
    refine zJ_iload_n dX12_place_21 rfl ?_
    refine zJ_tabIn 71 dX12_place_22 (by decide) (by decide) rfl (by decide) ?_
    refine zJ_aload_n dX12_place_71 rfl ?_
    refine zP_getr lf_X12_97 (zSt_ob hs 0 12 rfl) rfl (zSt_rf hs 0 13 62 rfl) dX12_place_72 ?_
    refine zP_getr lf_X12_254 (zSt_ob hs 62 8 rfl) rfl (zSt_rf hs 62 1 64 rfl) dX12_place_75 ?_
    refine zJ_iload dX12_place_78 rfl ?_
    refine zP_iald (zSt_ar hs 64 64 rfl) (by first | assumption | with_reducible exact vp_in_nI (by omega) (by omega) | (simp (disch := omega) only [nI_add, pk_mul, pk_sub, pk_div, pk_rem, nI_clamp]; with_reducible exact vp_in_nI (by omega) (by omega))) dX12_place_80 ?_
    rw [nI_clamp (by omega)]
    refine zJ_iret rfl dX12_place_81 ?_
    exact ⟨_, I, rfl, rfl, hR.2.1 _ hp, cQ hI fQ_rfl⟩
  · skip
    refine zJ_aload_n dX12_place_0 rfl ?_
    refine zJ_iload_n dX12_place_1 rfl ?_
    refine zJ_iload_n dX12_place_2 rfl ?_
    refine zP_callVv [_, _] _ lv_X12_248 (k_needPlace (d := d - 1) hl (by omega) hs (k_plc hI hx hy)) (zSt_ob hs 0 12 rfl) rfl (by omega) (Nat.le_of_ble_eq_true rfl) rfl dX12_place_3 ?_
    refine zJ_aload_n dX12_place_6 rfl ?_
    refine zJ_iload_n dX12_place_7 rfl ?_
    refine zJ_bipush (v := nI 6) dX12_place_8 rfl ?_
    refine zP_callVv [_, _] _ lv_X12_176 (k_needWhat (d := d - 1) hl (by omega) hs (k_what (by omega) (by omega))) (zSt_ob hs 0 12 rfl) rfl (by omega) (Nat.le_of_ble_eq_true rfl) rfl dX12_place_10 ?_
    refine zJ_iload_n dX12_place_13 rfl ?_
    refine zJ_bipush (v := nI 8) dX12_place_14 rfl ?_
    refine zJ_imul dX12_place_16 ?_
    refine zJ_iload_n dX12_place_17 rfl ?_
    refine zJ_iadd dX12_place_18 ?_
    rw [pk_mul, nI_add]
    refine zJ_istore dX12_place_19 (Nat.le_of_ble_eq_true rfl) (by decide) ?_
    refine zJ_iload_n dX12_place_21 rfl ?_
    refine zJ_tabIn 82 dX12_place_22 (by decide) (by decide) rfl (by decide) ?_
    refine zJ_aload_n dX12_place_82 rfl ?_
    refine zP_getr lf_X12_97 (zSt_ob hs 0 12 rfl) rfl (zSt_rf hs 0 13 62 rfl) dX12_place_83 ?_
    refine zP_getr lf_X12_257 (zSt_ob hs 62 8 rfl) rfl (zSt_rf hs 62 2 65 rfl) dX12_place_86 ?_
    refine zJ_iload dX12_place_89 rfl ?_
    refine zP_iald (zSt_ar hs 65 64 rfl) (by first | assumption | with_reducible exact vp_in_nI (by omega) (by omega) | (simp (disch := omega) only [nI_add, pk_mul, pk_sub, pk_div, pk_rem, nI_clamp]; with_reducible exact vp_in_nI (by omega) (by omega))) dX12_place_91 ?_
    rw [nI_clamp (by omega)]
    refine zJ_iret rfl dX12_place_92 ?_
    exact ⟨_, I, rfl, rfl, hR.2.2.1 _ hp, cQ hI fQ_rfl⟩
  · skip
    refine zJ_aload_n dX12_place_0 rfl ?_
    refine zJ_iload_n dX12_place_1 rfl ?_
    refine zJ_iload_n dX12_place_2 rfl ?_
    refine zP_callVv [_, _] _ lv_X12_248 (k_needPlace (d := d - 1) hl (by omega) hs (k_plc hI hx hy)) (zSt_ob hs 0 12 rfl) rfl (by omega) (Nat.le_of_ble_eq_true rfl) rfl dX12_place_3 ?_
    refine zJ_aload_n dX12_place_6 rfl ?_
    refine zJ_iload_n dX12_place_7 rfl ?_
    refine zJ_bipush (v := nI 6) dX12_place_8 rfl ?_
    refine zP_callVv [_, _] _ lv_X12_176 (k_needWhat (d := d - 1) hl (by omega) hs (k_what (by omega) (by omega))) (zSt_ob hs 0 12 rfl) rfl (by omega) (Nat.le_of_ble_eq_true rfl) rfl dX12_place_10 ?_
    refine zJ_iload_n dX12_place_13 rfl ?_
    refine zJ_bipush (v := nI 8) dX12_place_14 rfl ?_
    refine zJ_imul dX12_place_16 ?_
    refine zJ_iload_n dX12_place_17 rfl ?_
    refine zJ_iadd dX12_place_18 ?_
    rw [pk_mul, nI_add]
    refine zJ_istore dX12_place_19 (Nat.le_of_ble_eq_true rfl) (by decide) ?_
    refine zJ_iload_n dX12_place_21 rfl ?_
    refine zJ_tabIn 93 dX12_place_22 (by decide) (by decide) rfl (by decide) ?_
    refine zJ_aload_n dX12_place_93 rfl ?_
    refine zP_getr lf_X12_97 (zSt_ob hs 0 12 rfl) rfl (zSt_rf hs 0 13 62 rfl) dX12_place_94 ?_
    refine zP_getr lf_X12_260 (zSt_ob hs 62 8 rfl) rfl (zSt_rf hs 62 3 66 rfl) dX12_place_97 ?_
    refine zJ_iload dX12_place_100 rfl ?_
    refine zP_iald (zSt_ar hs 66 64 rfl) (by first | assumption | with_reducible exact vp_in_nI (by omega) (by omega) | (simp (disch := omega) only [nI_add, pk_mul, pk_sub, pk_div, pk_rem, nI_clamp]; with_reducible exact vp_in_nI (by omega) (by omega))) dX12_place_102 ?_
    rw [nI_clamp (by omega)]
    refine zJ_iret rfl dX12_place_103 ?_
    exact ⟨_, I, rfl, rfl, hR.2.2.2.1 _ hp, cQ hI fQ_rfl⟩
  · skip
    refine zJ_aload_n dX12_place_0 rfl ?_
    refine zJ_iload_n dX12_place_1 rfl ?_
    refine zJ_iload_n dX12_place_2 rfl ?_
    refine zP_callVv [_, _] _ lv_X12_248 (k_needPlace (d := d - 1) hl (by omega) hs (k_plc hI hx hy)) (zSt_ob hs 0 12 rfl) rfl (by omega) (Nat.le_of_ble_eq_true rfl) rfl dX12_place_3 ?_
    refine zJ_aload_n dX12_place_6 rfl ?_
    refine zJ_iload_n dX12_place_7 rfl ?_
    refine zJ_bipush (v := nI 6) dX12_place_8 rfl ?_
    refine zP_callVv [_, _] _ lv_X12_176 (k_needWhat (d := d - 1) hl (by omega) hs (k_what (by omega) (by omega))) (zSt_ob hs 0 12 rfl) rfl (by omega) (Nat.le_of_ble_eq_true rfl) rfl dX12_place_10 ?_
    refine zJ_iload_n dX12_place_13 rfl ?_
    refine zJ_bipush (v := nI 8) dX12_place_14 rfl ?_
    refine zJ_imul dX12_place_16 ?_
    refine zJ_iload_n dX12_place_17 rfl ?_
    refine zJ_iadd dX12_place_18 ?_
    rw [pk_mul, nI_add]
    refine zJ_istore dX12_place_19 (Nat.le_of_ble_eq_true rfl) (by decide) ?_
    refine zJ_iload_n dX12_place_21 rfl ?_
    refine zJ_tabIn 104 dX12_place_22 (by decide) (by decide) rfl (by decide) ?_
    refine zJ_aload_n dX12_place_104 rfl ?_
    refine zP_getr lf_X12_58 (zSt_ob hs 0 12 rfl) rfl (zSt_rf hs 0 8 41 rfl) dX12_place_105 ?_
    refine zJ_aload_n dX12_place_108 rfl ?_
    refine zP_getr lf_X12_97 (zSt_ob hs 0 12 rfl) rfl (zSt_rf hs 0 13 62 rfl) dX12_place_109 ?_
    refine zJ_iload dX12_place_112 rfl ?_
    refine zP_callVi [_, _] _ lv_X12_263 (k_X9_netBits (d := d - 1) hl (by omega) hs hbd (zSt_state hs) hp) (zSt_ob hs 41 9 rfl) rfl (by omega) (Nat.le_of_ble_eq_true rfl) rfl dX12_place_114 ?_
    refine zJ_iret rfl dX12_place_117 ?_
    exact ⟨_, I, rfl, rfl, q_nets hW hR hp, cQ hI fQ_rfl⟩
  · skip
    refine zJ_aload_n dX12_place_0 rfl ?_
    refine zJ_iload_n dX12_place_1 rfl ?_
    refine zJ_iload_n dX12_place_2 rfl ?_
    refine zP_callVv [_, _] _ lv_X12_248 (k_needPlace (d := d - 1) hl (by omega) hs (k_plc hI hx hy)) (zSt_ob hs 0 12 rfl) rfl (by omega) (Nat.le_of_ble_eq_true rfl) rfl dX12_place_3 ?_
    refine zJ_aload_n dX12_place_6 rfl ?_
    refine zJ_iload_n dX12_place_7 rfl ?_
    refine zJ_bipush (v := nI 6) dX12_place_8 rfl ?_
    refine zP_callVv [_, _] _ lv_X12_176 (k_needWhat (d := d - 1) hl (by omega) hs (k_what (by omega) (by omega))) (zSt_ob hs 0 12 rfl) rfl (by omega) (Nat.le_of_ble_eq_true rfl) rfl dX12_place_10 ?_
    refine zJ_iload_n dX12_place_13 rfl ?_
    refine zJ_bipush (v := nI 8) dX12_place_14 rfl ?_
    refine zJ_imul dX12_place_16 ?_
    refine zJ_iload_n dX12_place_17 rfl ?_
    refine zJ_iadd dX12_place_18 ?_
    rw [pk_mul, nI_add]
    refine zJ_istore dX12_place_19 (Nat.le_of_ble_eq_true rfl) (by decide) ?_
    refine zJ_iload_n dX12_place_21 rfl ?_
    refine zJ_tabIn 118 dX12_place_22 (by decide) (by decide) rfl (by decide) ?_
    refine zJ_aload_n dX12_place_118 rfl ?_
    refine zP_getr lf_X12_19 (zSt_ob hs 0 12 rfl) rfl (zSt_rf hs 0 1 3 rfl) dX12_place_119 ?_
    refine zP_getr lf_X12_266 (zSt_ob hs 3 0 rfl) rfl (zSt_rf hs 3 8 8 rfl) dX12_place_122 ?_
    refine zJ_iload dX12_place_125 rfl ?_
    refine zP_iald (zSt_ar hs 8 64 rfl) (by first | assumption | with_reducible exact vp_in_nI (by omega) (by omega) | (simp (disch := omega) only [nI_add, pk_mul, pk_sub, pk_div, pk_rem, nI_clamp]; with_reducible exact vp_in_nI (by omega) (by omega))) dX12_place_127 ?_
    rw [nI_clamp (by omega)]
    refine zJ_iret rfl dX12_place_128 ?_
    exact ⟨_, I, rfl, rfl, hW.2.2.2.2.2.1 _ hp, cQ hI fQ_rfl⟩
  · skip
    refine zJ_aload_n dX12_place_0 rfl ?_
    refine zJ_iload_n dX12_place_1 rfl ?_
    refine zJ_iload_n dX12_place_2 rfl ?_
    refine zP_callVv [_, _] _ lv_X12_248 (k_needPlace (d := d - 1) hl (by omega) hs (k_plc hI hx hy)) (zSt_ob hs 0 12 rfl) rfl (by omega) (Nat.le_of_ble_eq_true rfl) rfl dX12_place_3 ?_
    refine zJ_aload_n dX12_place_6 rfl ?_
    refine zJ_iload_n dX12_place_7 rfl ?_
    refine zJ_bipush (v := nI 6) dX12_place_8 rfl ?_
    refine zP_callVv [_, _] _ lv_X12_176 (k_needWhat (d := d - 1) hl (by omega) hs (k_what (by omega) (by omega))) (zSt_ob hs 0 12 rfl) rfl (by omega) (Nat.le_of_ble_eq_true rfl) rfl dX12_place_10 ?_
    refine zJ_iload_n dX12_place_13 rfl ?_
    refine zJ_bipush (v := nI 8) dX12_place_14 rfl ?_
    refine zJ_imul dX12_place_16 ?_
    refine zJ_iload_n dX12_place_17 rfl ?_
    refine zJ_iadd dX12_place_18 ?_
    rw [pk_mul, nI_add]
    refine zJ_istore dX12_place_19 (Nat.le_of_ble_eq_true rfl) (by decide) ?_
    refine zJ_iload_n dX12_place_21 rfl ?_
    refine zJ_tabOut 129 dX12_place_22 (Or.inr (by decide)) (by decide) ?_
    refine zJ_aload_n dX12_place_129 rfl ?_
    refine zP_getr lf_X12_58 (zSt_ob hs 0 12 rfl) rfl (zSt_rf hs 0 8 41 rfl) dX12_place_130 ?_
    refine zJ_aload_n dX12_place_133 rfl ?_
    refine zP_getr lf_X12_97 (zSt_ob hs 0 12 rfl) rfl (zSt_rf hs 0 13 62 rfl) dX12_place_134 ?_
    refine zJ_iload dX12_place_137 rfl ?_
    refine zP_callVi [_, _] _ lv_X12_269 (k_X9_overAt (d := d - 1) hl (by omega) hs (zSt_state hs) hp) (zSt_ob hs 41 9 rfl) rfl (by omega) (Nat.le_of_ble_eq_true rfl) rfl dX12_place_139 ?_
    refine zJ_iret rfl dX12_place_142 ?_
    exact ⟨_, I, rfl, rfl, ovr_eq hW hR hp, cQ hI fQ_rfl⟩
theorem price_eq {b : zWo} {R : rwT} {s n p : Nat} (hW : zWi I b) (hR : zRow I s R) (hn : n < 6) (hp : p < 64) : clampL ((evalL (nmF I s n p (hasB I s n p)) (I 23) (I 24) (bln b)).2 0) = lawV b (nmM b R n p) := (cst_eq hW hR hn hp).trans cst_in.2.2.symm
theorem fQ_2224 {f f' : Nat → Int32} : fQ I (va_up (va_up I 22 f) 24 f') := ⟨fun a _ q2 q3 _ _ _ => by rw [va_up_row q3, va_up_row q2], fun k _ => by rw [va_up_row (by decide), va_up_row (by decide)]⟩
theorem k_cost (hl : l.stackTraces = false) (hd : 12 ≤ d) (hs : zSt g) {S : sT} (hI : cI I g S) (hok : okS S) {n x y : Nat} (hn : n < bN S.2.1) (hx : x < bC S.2.1) (hy : y < bR S.2.1) : zEi l Xi mX12_cost d [.ref 0, .int (nI n), .int (nI x), .int (nI y)] I g (fun v J => v = lawV S.2.1 (nmM S.2.1 S.2.2.1 n (y * 8 + x)) ∧ cI J g S ∧ fC I J) := by
  refine zC_of hl rfl rfl rfl (Nat.le_of_ble_eq_true rfl) (zav_r (zSt_ob hs 0 12 rfl).1 (zav_i (zav_i (zav_i zav_0)))) ?_
  obtain ⟨hW, hR, hokR, hwk, hwI, hbk⟩ := cI_ctx hI hok
  have hC8 := hW.1.2.1
  have hR8 := hW.1.2.2.2.1
  have hN6 := hW.1.2.2.2.2.1
  have hp : y * 8 + x < 64 := by omega
  refine zJ_aload_n dX12_cost_0 rfl ?_
  refine zJ_iload_n dX12_cost_1 rfl ?_
  refine zP_callVv [_] _ lv_X12_211 (k_needNet (d := d - 1) hl (by omega) hs (k_ntt hI hn)) (zSt_ob hs 0 12 rfl) rfl (by omega) (Nat.le_of_ble_eq_true rfl) rfl dX12_cost_2 ?_
  refine zJ_aload_n dX12_cost_5 rfl ?_
  refine zJ_iload_n dX12_cost_6 rfl ?_
  refine zJ_iload_n dX12_cost_7 rfl ?_
  refine zP_callVv [_, _] _ lv_X12_248 (k_needPlace (d := d - 1) hl (by omega) hs (k_plc hI hx hy)) (zSt_ob hs 0 12 rfl) rfl (by omega) (Nat.le_of_ble_eq_true rfl) rfl dX12_cost_8 ?_
  refine zJ_aload_n dX12_cost_11 rfl ?_
  refine zP_getr lf_X12_67 (zSt_ob hs 0 12 rfl) rfl (zSt_rf hs 0 9 43 rfl) dX12_cost_12 ?_
  refine zJ_aload_n dX12_cost_15 rfl ?_
  refine zP_getr lf_X12_97 (zSt_ob hs 0 12 rfl) rfl (zSt_rf hs 0 13 62 rfl) dX12_cost_16 ?_
  refine zJ_iload_n dX12_cost_19 rfl ?_
  refine zJ_iload_n dX12_cost_20 rfl ?_
  refine zJ_bipush (v := nI 8) dX12_cost_21 rfl ?_
  refine zJ_imul dX12_cost_23 ?_
  refine zJ_iload_n dX12_cost_24 rfl ?_
  refine zJ_iadd dX12_cost_25 ?_
  rw [pk_mul, nI_add]
  refine zP_callVi [_, _, _] _ lv_X12_272 (k_X6_priceOf (len := bln S.2.1) (d := d - 1) hl (by omega) hs (zSt_state hs) (by decide) (by omega) hp hW.2.2.2.2.2.2.2.1 hW.1.2.2.2.2.2.2.2.2.2.1 (fun i hi => by rw [hW.2.2.2.2.2.2.2.2.1 i hi]; obtain ⟨dp, -, -, h9⟩ := hW.1.2.2.2.2.2.2.2.2.2.2; exact (h9 i hi).1)) (zSt_ob hs 43 6 rfl) rfl (by omega) (Nat.le_of_ble_eq_true rfl) rfl dX12_cost_26 ?_
  refine zJ_iret rfl dX12_cost_29 ?_
  exact ⟨_, _, rfl, rfl, price_eq hW hR (by omega) hp, cQ hI fQ_2224⟩
theorem k_parent (hl : l.stackTraces = false) (hd : 12 ≤ d) (hs : zSt g) {S : sT} (hI : cI I g S) (hok : okS S) {n x y : Nat} (hn : n < bN S.2.1) (hx : x < bC S.2.1) (hy : y < bR S.2.1) : zEi l Xi mX12_parent d [.ref 0, .int (nI n), .int (nI x), .int (nI y)] I g (fun v J => v = S.2.2.1 (n * 64 + (y * 8 + x)) ∧ cI J g S ∧ fC I J) := by
  refine zC_of hl rfl rfl rfl (Nat.le_of_ble_eq_true rfl) (zav_r (zSt_ob hs 0 12 rfl).1 (zav_i (zav_i (zav_i zav_0)))) ?_
  obtain ⟨hW, hR, hokR, hwk, hwI, hbk⟩ := cI_ctx hI hok
  have hC8 := hW.1.2.1
  have hR8 := hW.1.2.2.2.1
  have hN6 := hW.1.2.2.2.2.1
  have hp : y * 8 + x < 64 := by omega
  refine zJ_aload_n dX12_parent_0 rfl ?_
  refine zJ_iload_n dX12_parent_1 rfl ?_
  refine zP_callVv [_] _ lv_X12_211 (k_needNet (d := d - 1) hl (by omega) hs (k_ntt hI hn)) (zSt_ob hs 0 12 rfl) rfl (by omega) (Nat.le_of_ble_eq_true rfl) rfl dX12_parent_2 ?_
  refine zJ_aload_n dX12_parent_5 rfl ?_
  refine zJ_iload_n dX12_parent_6 rfl ?_
  refine zJ_iload_n dX12_parent_7 rfl ?_
  refine zP_callVv [_, _] _ lv_X12_248 (k_needPlace (d := d - 1) hl (by omega) hs (k_plc hI hx hy)) (zSt_ob hs 0 12 rfl) rfl (by omega) (Nat.le_of_ble_eq_true rfl) rfl dX12_parent_8 ?_
  refine zJ_aload_n dX12_parent_11 rfl ?_
  refine zP_getr lf_X12_97 (zSt_ob hs 0 12 rfl) rfl (zSt_rf hs 0 13 62 rfl) dX12_parent_12 ?_
  refine zP_getr lf_X12_287 (zSt_ob hs 62 8 rfl) rfl (zSt_rf hs 62 0 63 rfl) dX12_parent_15 ?_
  refine zJ_iload_n dX12_parent_18 rfl ?_
  refine zJ_bipush (v := nI 64) dX12_parent_19 rfl ?_
  refine zJ_imul dX12_parent_21 ?_
  refine zJ_iload_n dX12_parent_22 rfl ?_
  refine zJ_bipush (v := nI 8) dX12_parent_23 rfl ?_
  refine zJ_imul dX12_parent_25 ?_
  refine zJ_iadd dX12_parent_26 ?_
  refine zJ_iload_n dX12_parent_27 rfl ?_
  refine zJ_iadd dX12_parent_28 ?_
  rw [pk_mul, pk_mul, nI_add, nI_add]
  refine zP_iald (zSt_ar hs 63 384 rfl) (by first | assumption | with_reducible exact vp_in_nI (by omega) (by omega) | (simp (disch := omega) only [nI_add, pk_mul, pk_sub, pk_div, pk_rem, nI_clamp]; with_reducible exact vp_in_nI (by omega) (by omega))) dX12_parent_29 ?_
  rw [nI_clamp (by omega), hR.1 _ (by omega)]
  refine zJ_iret rfl dX12_parent_30 ?_
  exact ⟨_, I, rfl, rfl, by rw [Nat.add_assoc], cQ hI fQ_rfl⟩
theorem k_dist (hl : l.stackTraces = false) (hd : 12 ≤ d) (hs : zSt g) {S : sT} (hI : cI I g S) (hok : okS S) {n x y : Nat} (hn : n < bN S.2.1) (hx : x < bC S.2.1) (hy : y < bR S.2.1) : zEi l Xi mX12_dist d [.ref 0, .int (nI n), .int (nI x), .int (nI y)] I g (fun v J => v = oI (DM S.2.1 S.2.2.1 n (y * 8 + x)) ∧ cI J g S ∧ fC I J) := by
  refine zC_of hl rfl rfl rfl (Nat.le_of_ble_eq_true rfl) (zav_r (zSt_ob hs 0 12 rfl).1 (zav_i (zav_i (zav_i zav_0)))) ?_
  obtain ⟨hW, hR, hokR, hwk, hwI, hbk⟩ := cI_ctx hI hok
  have hC8 := hW.1.2.1
  have hR8 := hW.1.2.2.2.1
  have hN6 := hW.1.2.2.2.2.1
  have hp : y * 8 + x < 64 := by omega
  refine zJ_aload_n dX12_dist_0 rfl ?_
  refine zJ_iload_n dX12_dist_1 rfl ?_
  refine zP_callVv [_] _ lv_X12_211 (k_needNet (d := d - 1) hl (by omega) hs (k_ntt hI hn)) (zSt_ob hs 0 12 rfl) rfl (by omega) (Nat.le_of_ble_eq_true rfl) rfl dX12_dist_2 ?_
  refine zJ_aload_n dX12_dist_5 rfl ?_
  refine zJ_iload_n dX12_dist_6 rfl ?_
  refine zJ_iload_n dX12_dist_7 rfl ?_
  refine zP_callVv [_, _] _ lv_X12_248 (k_needPlace (d := d - 1) hl (by omega) hs (k_plc hI hx hy)) (zSt_ob hs 0 12 rfl) rfl (by omega) (Nat.le_of_ble_eq_true rfl) rfl dX12_dist_8 ?_
  refine zJ_aload_n dX12_dist_11 rfl ?_
  refine zP_getr lf_X12_67 (zSt_ob hs 0 12 rfl) rfl (zSt_rf hs 0 9 43 rfl) dX12_dist_12 ?_
  refine zJ_aload_n dX12_dist_15 rfl ?_
  refine zP_getr lf_X12_97 (zSt_ob hs 0 12 rfl) rfl (zSt_rf hs 0 13 62 rfl) dX12_dist_16 ?_
  refine zJ_iload_n dX12_dist_19 rfl ?_
  refine zJ_iload_n dX12_dist_20 rfl ?_
  refine zJ_bipush (v := nI 8) dX12_dist_21 rfl ?_
  refine zJ_imul dX12_dist_23 ?_
  refine zJ_iload_n dX12_dist_24 rfl ?_
  refine zJ_iadd dX12_dist_25 ?_
  rw [pk_mul, nI_add]
  refine zP_ecallVi [_, _, _] _ lv_X12_290 (k_X6_distanceTo (d := d - 1) hl (by omega) hs (zSt_state hs) (by decide) (by omega) hp hW hR) (zSt_ob hs 43 6 rfl) rfl (by omega) (Nat.le_of_ble_eq_true rfl) rfl dX12_dist_26 (fun v J hv => ?_)
  refine zJ_iret rfl dX12_dist_29 ?_
  exact ⟨_, J, rfl, rfl, hv.1, cX62 hI hv.2.1 hv.2.2.1⟩
theorem k_spared (hl : l.stackTraces = false) (hd : 12 ≤ d) (hs : zSt g) {S : sT} (hI : cI I g S) (hok : okS S) {n x y : Nat} (hn : n < bN S.2.1) (hx : x < bC S.2.1) (hy : y < bR S.2.1) : zEi l Xi mX12_spared d [.ref 0, .int (nI n), .int (nI x), .int (nI y)] I g (fun v J => v = spaM S.2.1 S.2.2.1 n (y * 8 + x) ∧ cI J g S ∧ fC I J) := by
  refine zC_of hl rfl rfl rfl (Nat.le_of_ble_eq_true rfl) (zav_r (zSt_ob hs 0 12 rfl).1 (zav_i (zav_i (zav_i zav_0)))) ?_
  obtain ⟨hW, hR, hokR, hwk, hwI, hbk⟩ := cI_ctx hI hok
  have hC8 := hW.1.2.1
  have hR8 := hW.1.2.2.2.1
  have hN6 := hW.1.2.2.2.2.1
  have hp : y * 8 + x < 64 := by omega
  refine zJ_aload_n dX12_spared_0 rfl ?_
  refine zJ_iload_n dX12_spared_1 rfl ?_
  refine zP_callVv [_] _ lv_X12_211 (k_needNet (d := d - 1) hl (by omega) hs (k_ntt hI hn)) (zSt_ob hs 0 12 rfl) rfl (by omega) (Nat.le_of_ble_eq_true rfl) rfl dX12_spared_2 ?_
  refine zJ_aload_n dX12_spared_5 rfl ?_
  refine zJ_iload_n dX12_spared_6 rfl ?_
  refine zJ_iload_n dX12_spared_7 rfl ?_
  refine zP_callVv [_, _] _ lv_X12_248 (k_needPlace (d := d - 1) hl (by omega) hs (k_plc hI hx hy)) (zSt_ob hs 0 12 rfl) rfl (by omega) (Nat.le_of_ble_eq_true rfl) rfl dX12_spared_8 ?_
  refine zJ_aload_n dX12_spared_11 rfl ?_
  refine zP_getr lf_X12_67 (zSt_ob hs 0 12 rfl) rfl (zSt_rf hs 0 9 43 rfl) dX12_spared_12 ?_
  refine zJ_aload_n dX12_spared_15 rfl ?_
  refine zP_getr lf_X12_97 (zSt_ob hs 0 12 rfl) rfl (zSt_rf hs 0 13 62 rfl) dX12_spared_16 ?_
  refine zJ_iload_n dX12_spared_19 rfl ?_
  refine zJ_iload_n dX12_spared_20 rfl ?_
  refine zJ_bipush (v := nI 8) dX12_spared_21 rfl ?_
  refine zJ_imul dX12_spared_23 ?_
  refine zJ_iload_n dX12_spared_24 rfl ?_
  refine zJ_iadd dX12_spared_25 ?_
  rw [pk_mul, nI_add]
  refine zP_ecallVi [_, _, _] _ lv_X12_293 (k_X6_sparedOf (d := d - 1) hl (by omega) hs (zSt_state hs) (by decide) (by omega) hp hW hR) (zSt_ob hs 43 6 rfl) rfl (by omega) (Nat.le_of_ble_eq_true rfl) rfl dX12_spared_26 (fun v J hv => ?_)
  refine zJ_iret rfl dX12_spared_29 ?_
  exact ⟨_, J, rfl, rfl, hv.1, cX62 hI hv.2.1 hv.2.2⟩
theorem k_fewest (hl : l.stackTraces = false) (hd : 12 ≤ d) (hs : zSt g) {S : sT} (hI : cI I g S) (hok : okS S) {n : Nat} (hn : n < bN S.2.1) : zEi l Xi mX12_fewest d [.ref 0, .int (nI n)] I g (fun v J => v = fewM S.2.1 S.2.2.1 n ∧ cI J g S ∧ fC I J) := by
  refine zC_of hl rfl rfl rfl (Nat.le_of_ble_eq_true rfl) (zav_r (zSt_ob hs 0 12 rfl).1 (zav_i zav_0)) ?_
  obtain ⟨hW, hR, hokR, hwk, hwI, hbk⟩ := cI_ctx hI hok
  have hN6 := hW.1.2.2.2.2.1
  refine zJ_aload_n dX12_fewest_0 rfl ?_
  refine zJ_iload_n dX12_fewest_1 rfl ?_
  refine zP_callVv [_] _ lv_X12_211 (k_needNet (d := d - 1) hl (by omega) hs (k_ntt hI hn)) (zSt_ob hs 0 12 rfl) rfl (by omega) (Nat.le_of_ble_eq_true rfl) rfl dX12_fewest_2 ?_
  refine zJ_aload_n dX12_fewest_5 rfl ?_
  refine zP_getr lf_X12_74 (zSt_ob hs 0 12 rfl) rfl (zSt_rf hs 0 10 49 rfl) dX12_fewest_6 ?_
  refine zJ_aload_n dX12_fewest_9 rfl ?_
  refine zP_getr lf_X12_97 (zSt_ob hs 0 12 rfl) rfl (zSt_rf hs 0 13 62 rfl) dX12_fewest_10 ?_
  refine zJ_iload_n dX12_fewest_13 rfl ?_
  refine zP_ecallVi [_, _] _ lv_X12_310 (k_X4_fewestPlaces (d := d - 1) hl (by omega) hs (zSt_state hs) (by decide) (by omega) hW hR) (zSt_ob hs 49 4 rfl) rfl (by omega) (Nat.le_of_ble_eq_true rfl) rfl dX12_fewest_14 (fun v J hv => ?_)
  refine zJ_iret rfl dX12_fewest_17 ?_
  exact ⟨_, J, rfl, rfl, hv.1, cQ hI (fQ_fZ (fZ_sbJ hv.2))⟩
theorem k_fault (hl : l.stackTraces = false) (hd : 1 ≤ d) (hs : zSt g) {S : sT} (hI : cI I g S) : zEi l Xi mX12_fault d [.ref 0] I g (fun v J => v = S.1.2.2 ∧ cI J g S ∧ fC I J) := by
  refine zC_of hl rfl rfl rfl (Nat.le_of_ble_eq_true rfl) (zav_r (zSt_ob hs 0 12 rfl).1 zav_0) ?_
  refine zJ_aload_n dX12_fault_0 rfl ?_
  refine zP_getr lf_X12_12 (zSt_ob hs 0 12 rfl) rfl (zSt_rf hs 0 0 1 rfl) dX12_fault_1 ?_
  refine zP_geti lf_X12_170 (zSt_ob hs 1 10 rfl) rfl dX12_fault_4 ?_
  refine zJ_iret rfl dX12_fault_7 ?_
  exact ⟨_, I, rfl, rfl, hI.2.1, cQ hI fQ_rfl⟩
def statV (S : sT) (x : Int32) : Int32 := if x = 0 then S.2.2.2.2.2.2.2.1 else if x = nI 1 then S.2.2.2.2.2.2.2.2 else -1
theorem k_status (hl : l.stackTraces = false) (hd : 1 ≤ d) (hs : zSt g) {S : sT} (hI : cI I g S) {x : Int32} : zEi l Xi mX12_status d [.ref 0, .int x] I g (fun v J => v = statV S x ∧ cI J g S ∧ fC I J) := by
  refine zC_of hl rfl rfl rfl (Nat.le_of_ble_eq_true rfl) (zav_r (zSt_ob hs 0 12 rfl).1 (zav_i zav_0)) ?_
  refine zJ_iload_n dX12_status_0 rfl ?_
  refine zJ_if_ne 9 dX12_status_1 (by decide) (fun c1 => ?_) (fun c1 => ?_)
  · skip
    refine zJ_iload_n dX12_status_9 rfl ?_
    refine zJ_iconst (v := nI 1) dX12_status_10 rfl ?_
    refine zJ_icmp_ne 21 dX12_status_11 (by decide) (fun c11 => ?_) (fun c11 => ?_)
    · skip
      refine zJ_iconst (v := -1) dX12_status_21 rfl ?_
      refine zJ_iret rfl dX12_status_22 ?_
      exact ⟨_, I, rfl, rfl, by unfold statV; rw [if_neg c1, if_neg c11], cQ hI fQ_rfl⟩
    · skip
      refine zJ_aload_n dX12_status_14 rfl ?_
      refine zP_geti lf_X12_356 (zSt_ob hs 0 12 rfl) rfl dX12_status_15 ?_
      refine zJ_goto 22 dX12_status_18 (by decide) ?_
      refine zJ_iret rfl dX12_status_22 ?_
      exact ⟨_, I, rfl, rfl, by unfold statV; rw [if_neg c1, if_pos c11]; exact hI.2.2.2.2.2.2.2.2, cQ hI fQ_rfl⟩
  · skip
    refine zJ_aload_n dX12_status_4 rfl ?_
    refine zP_geti lf_X12_353 (zSt_ob hs 0 12 rfl) rfl dX12_status_5 ?_
    refine zJ_iret rfl dX12_status_8 ?_
    exact ⟨_, I, rfl, rfl, by unfold statV; rw [if_pos c1]; exact hI.2.2.2.2.2.2.2.1, cQ hI fQ_rfl⟩
def cntV (S : sT) (x : Int32) : Int32 := if x = 0 then nI S.2.2.2.2.2.1.1 else if x = nI 1 then nI S.1.1 else if x = nI 2 then nI S.2.2.2.2.1.1 else -1
theorem k_count (hl : l.stackTraces = false) (hd : 1 ≤ d) (hs : zSt g) {S : sT} (hI : cI I g S) {x : Int32} : zEi l Xi mX12_count d [.ref 0, .int x] I g (fun v J => v = cntV S x ∧ cI J g S ∧ fC I J) := by
  refine zC_of hl rfl rfl rfl (Nat.le_of_ble_eq_true rfl) (zav_r (zSt_ob hs 0 12 rfl).1 (zav_i zav_0)) ?_
  have hsh := hI.2.2.2.2.2.1.1
  by_cases e0 : x = 0
  · subst e0
    refine zJ_iload_n dX12_count_0 rfl ?_
    refine zJ_tabIn 28 dX12_count_1 (by decide) (by decide) rfl (by decide) ?_
    refine zJ_aload_n dX12_count_28 rfl ?_
    refine zP_getr lf_X12_90 (zSt_ob hs 0 12 rfl) rfl (zSt_rf hs 0 12 57 rfl) dX12_count_29 ?_
    refine zP_geti lf_X12_344 (zSt_ob hs 57 7 rfl) rfl dX12_count_32 ?_
    refine zJ_iret rfl dX12_count_35 ?_
    exact ⟨_, I, rfl, rfl, hsh.2.2.1, cQ hI fQ_rfl⟩
  · by_cases e1 : x = nI 1
    · subst e1
      refine zJ_iload_n dX12_count_0 rfl ?_
      refine zJ_tabIn 36 dX12_count_1 (by decide) (by decide) rfl (by decide) ?_
      refine zJ_aload_n dX12_count_36 rfl ?_
      refine zP_getr lf_X12_12 (zSt_ob hs 0 12 rfl) rfl (zSt_rf hs 0 0 1 rfl) dX12_count_37 ?_
      refine zP_geti lf_X12_107 (zSt_ob hs 1 10 rfl) rfl dX12_count_40 ?_
      refine zJ_iret rfl dX12_count_43 ?_
      exact ⟨_, I, rfl, rfl, hI.1.1, cQ hI fQ_rfl⟩
    · by_cases e2 : x = nI 2
      · subst e2
        refine zJ_iload_n dX12_count_0 rfl ?_
        refine zJ_tabIn 44 dX12_count_1 (by decide) (by decide) rfl (by decide) ?_
        refine zJ_aload_n dX12_count_44 rfl ?_
        refine zP_getr lf_X12_90 (zSt_ob hs 0 12 rfl) rfl (zSt_rf hs 0 12 57 rfl) dX12_count_45 ?_
        refine zP_geti lf_X12_143 (zSt_ob hs 57 7 rfl) rfl dX12_count_48 ?_
        refine zJ_iret rfl dX12_count_51 ?_
        exact ⟨_, I, rfl, rfl, hsh.1, cQ hI fQ_rfl⟩
      · have hout : x.toInt < 0 ∨ 2 < x.toInt := by
          refine Decidable.byContradiction (fun z => ?_)
          have h3 : x.toInt = 0 ∨ x.toInt = 1 ∨ x.toInt = 2 := by omega
          rcases h3 with h | h | h
          · exact e0 (Int32.toInt_inj.mp (by rw [h]; rfl))
          · exact e1 (Int32.toInt_inj.mp (by rw [h]; rfl))
          · exact e2 (Int32.toInt_inj.mp (by rw [h]; rfl))
        refine zJ_iload_n dX12_count_0 rfl ?_
        refine zJ_tabOut 52 dX12_count_1 hout (by decide) ?_
        refine zJ_iconst (v := -1) dX12_count_52 rfl ?_
        refine zJ_iret rfl dX12_count_53 ?_
        exact ⟨_, I, rfl, rfl, by unfold cntV; rw [if_neg e0, if_neg e1, if_neg e2], cQ hI fQ_rfl⟩
end ZX12a
