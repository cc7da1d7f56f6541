/-! ===== NegotiatedWires: seasons, would ===== -/
section ZX12d
variable {l : Launch} {Xi : zXi} {d : Nat} {I : zI} {g : zG}
def sdN (s : Int32) : Int32 := s * 1103515245 + nI 12345
def drN (s : Int32) (k : Nat) : Nat := s.toBitVec.toNat / 2 ^ 16 % 2 ^ 15 % k
theorem drN_lt {s : Int32} {k : Nat} (h : 0 < k) : drN s k < k := Nat.mod_lt _ h
theorem drN_eq {s : Int32} : (s.toUInt32 >>> ((nI 16).toUInt32 &&& Int32.toUInt32 31)).toInt32 &&& nI 32767 = nI (s.toBitVec.toNat / 2 ^ 16 % 2 ^ 15) := by
  rw [pk_and _ 15 (by decide), pk_ushr s (nI 16) 16 (by decide)]
theorem k_drawn (hl : l.stackTraces = false) (hd : 1 ≤ d) (hs : zSt g) {s : Int32} {k : Nat} (hk : 0 < k) (hk2 : k < 100) (h : I 0 18 = s) : zD l Xi mX12_drawn d [.ref 0, .int (nI k)] I g (some (.int (nI (drN (sdN s) k)))) (zup I 0 18 (sdN s)) := by
  refine zC_of hl rfl rfl rfl (Nat.le_of_ble_eq_true rfl) (zav_r (zSt_ob hs 0 12 rfl).1 (zav_i zav_0)) ?_
  have hlt : (sdN s).toBitVec.toNat / 2 ^ 16 % 2 ^ 15 < 2 ^ 15 := Nat.mod_lt _ (by decide)
  refine zJ_aload_n dX12_drawn_0 rfl ?_
  refine zJ_aload_n dX12_drawn_1 rfl ?_
  refine zP_geti lf_X12_387 (zSt_ob hs 0 12 rfl) rfl dX12_drawn_2 ?_
  rw [h]
  refine zJ_ldc_w (v := (1103515245 : Int32)) lk_X12_406 dX12_drawn_5 ?_
  refine zJ_imul dX12_drawn_8 ?_
  refine zJ_sipush (v := nI 12345) dX12_drawn_9 rfl ?_
  refine zJ_iadd dX12_drawn_12 ?_
  refine zP_puti lf_X12_387 (zSt_ob hs 0 12 rfl) rfl dX12_drawn_13 ?_
  refine zJ_iload_n dX12_drawn_16 rfl ?_
  refine zJ_if_gt 24 dX12_drawn_17 (by decide) (fun _ => ?_) (fun c17 => absurd (nI_lt hk (by omega)) c17)
  refine zJ_aload_n dX12_drawn_24 rfl ?_
  refine zP_geti lf_X12_387 (zSt_ob hs 0 12 rfl) rfl dX12_drawn_25 ?_
  rw [zup_same, upd_at]
  refine zJ_bipush (v := nI 16) dX12_drawn_28 rfl ?_
  refine zJ_iushr dX12_drawn_30 ?_
  refine zJ_sipush (v := nI 32767) dX12_drawn_31 rfl ?_
  refine zJ_iand dX12_drawn_34 ?_
  rw [show s * 1103515245 + nI 12345 = sdN s from rfl, drN_eq]
  refine zJ_iload_n dX12_drawn_35 rfl ?_
  refine zJ_irem dX12_drawn_36 (nI_ne0 hk (by omega)) ?_
  rw [pk_rem (by omega) hk (by omega)]
  refine zJ_iret rfl dX12_drawn_37 ?_
  exact ⟨rfl, rfl⟩
noncomputable def deedM (b : zWo) (q : Int32 × rwT) : Int32 × rwT :=
  let s1 := sdN q.1
  let n := drN s1 (bN b)
  let s2 := sdN s1
  let k := drN s2 8
  if k = 0 then (s2, ripM q.2 n) else if k = 1 ∨ k = 2 then (s2, if 0 < bpc b n then layA b q.2 n else q.2) else if k = 3 then (sdN s2, upd q.2 (512 + n) (nI (drN (sdN s2) 10))) else (s2, rndM b q.2)
theorem deed_eq {b : zWo} {s : Int32} {R : rwT} {n k : Nat} (hn : drN (sdN s) (bN b) = n) (hk : drN (sdN (sdN s)) 8 = k) : deedM b (s, R) = if k = 0 then (sdN (sdN s), ripM R n) else if k = 1 ∨ k = 2 then (sdN (sdN s), if 0 < bpc b n then layA b R n else R) else if k = 3 then (sdN (sdN (sdN s)), upd R (512 + n) (nI (drN (sdN (sdN (sdN s))) 10))) else (sdN (sdN s), rndM b R) := by
  subst hn hk
  rfl
theorem deed_ok {b : zWo} {q : Int32 × rwT} (hb : bdOk b) (hg : gnOk b) (hN : 0 < bN b) (h : okR b q.2) : okR b (deedM b q).2 := by
  have hN6 := hb.2.2.2.2.1
  obtain ⟨s, R⟩ := q
  obtain ⟨n, hn⟩ : ∃ n, drN (sdN s) (bN b) = n := ⟨_, rfl⟩
  obtain ⟨k, hk⟩ : ∃ k, drN (sdN (sdN s)) 8 = k := ⟨_, rfl⟩
  have hnN : n < bN b := by rw [← hn]; exact drN_lt hN
  rw [deed_eq hn hk]
  by_cases k0 : k = 0
  · rw [if_pos k0]; exact okR_rip hb h (by omega)
  rw [if_neg k0]
  by_cases k1 : k = 1 ∨ k = 2
  · rw [if_pos k1]
    show okR b (if 0 < bpc b n then layA b R n else R)
    by_cases z : 0 < bpc b n
    · rw [if_pos z]; exact okR_layA hb h (by omega) hnN z
    · rw [if_neg z]; exact h
  rw [if_neg k1]
  by_cases k3 : k = 3
  · rw [if_pos k3]; exact okR_crit hb h (by omega)
  · rw [if_neg k3]; exact okR_rnd hb hg h
/-- all but the class's scratch and the seed -/
theorem fQ_seed {J : zI} {x : Int32} (h : fQ I J) : fQ I (zup J 0 18 x) := ⟨fun a q1 q2 q3 q4 q5 q6 => by rw [zup_row q1]; exact h.1 a q1 q2 q3 q4 q5 q6, fun k hk => by rw [zup_same, upd_ne hk]; exact h.2 k hk⟩
set_option maxHeartbeats 1000000 in
theorem k_deed (hl : l.stackTraces = false) (hd : 9 ≤ d) (hs : zSt g) {b : zWo} {s : Int32} {R : rwT} (hW : zWi I b) (hg : gnOk b) (hN : 0 < bN b) (hR : zRow I 68 R) (hok : okR b R) (h : I 0 18 = s) : zEv l Xi mX12_doDrawnDeed d [.ref 0] I g (fun J => fQ I J ∧ J 0 18 = (deedM b (s, R)).1 ∧ zRow J 68 (deedM b (s, R)).2) := by
  refine zC_of hl rfl rfl rfl (Nat.le_of_ble_eq_true rfl) (zav_r (zSt_ob hs 0 12 rfl).1 zav_0) ?_
  have hN6 := hW.1.2.2.2.2.1
  obtain ⟨n, hn⟩ : ∃ n, drN (sdN s) (bN b) = n := ⟨_, rfl⟩
  obtain ⟨k, hk⟩ : ∃ k, drN (sdN (sdN s)) 8 = k := ⟨_, rfl⟩
  have hnN : n < bN b := by rw [← hn]; exact drN_lt hN
  have hk8 : k < 8 := by rw [← hk]; exact drN_lt (by decide)
  rw [deed_eq hn hk]
  have hf1 : fQ I (zup (zup I 0 18 (sdN s)) 0 18 (sdN (sdN s))) := fQ_seed (fQ_seed fQ_rfl)
  have hW1 : zWi (zup (zup I 0 18 (sdN s)) 0 18 (sdN (sdN s))) b := zWi_of hW (fun a ha => by rw [zup_row (by omega), zup_row (by omega)])
  have hR1 : zRow (zup (zup I 0 18 (sdN s)) 0 18 (sdN (sdN s))) 68 R := zRow_of hR (fun a h1 h2 => by rw [zup_row (by omega), zup_row (by omega)])
  have h18 : (zup (zup I 0 18 (sdN s)) 0 18 (sdN (sdN s))) 0 18 = sdN (sdN s) := by rw [zup_same, upd_at]
  have hx0 : ∀ {J K : zI}, fX 68 J K → K 0 = J 0 := fun h => h 0 (by decide) (by decide) (by decide) (by decide) (by decide) (by decide) (by decide) (by decide) (by decide)
  have hd1 : ∀ {d : Nat}, 1 ≤ d → zD l Xi mX12_drawn d [.ref 0, .int (nI (bN b))] I g (some (.int (nI n))) (zup I 0 18 (sdN s)) := fun h9 => by rw [← hn]; exact k_drawn hl h9 hs hN (by omega) h
  have hd2 : ∀ {d : Nat}, 1 ≤ d → zD l Xi mX12_drawn d [.ref 0, .int (nI 8)] (zup I 0 18 (sdN s)) g (some (.int (nI k))) (zup (zup I 0 18 (sdN s)) 0 18 (sdN (sdN s))) := fun h9 => by rw [← hk]; exact k_drawn hl h9 hs (by decide) (by decide) (by rw [zup_same, upd_at])
  by_cases k0 : k = 0
  · rw [if_pos k0]
    subst k0
    refine zJ_aload_n dX12_doDrawnDeed_0 rfl ?_
    refine zJ_aload_n dX12_doDrawnDeed_1 rfl ?_
    refine zP_getr lf_X12_19 (zSt_ob hs 0 12 rfl) rfl (zSt_rf hs 0 1 3 rfl) dX12_doDrawnDeed_2 ?_
    refine zP_geti lf_X12_136 (zSt_ob hs 3 0 rfl) rfl dX12_doDrawnDeed_5 ?_
    rw [hW.2.1.2.2.1]
    refine zP_callVi [_] _ lv_X12_393 (hd1 (d := d - 1) (by omega)) (zSt_ob hs 0 12 rfl) rfl (by omega) (Nat.le_of_ble_eq_true rfl) rfl dX12_doDrawnDeed_8 ?_
    refine zJ_istore_m 1 dX12_doDrawnDeed_11 rfl (Nat.le_of_ble_eq_true rfl) (by decide) ?_
    refine zJ_aload_n dX12_doDrawnDeed_12 rfl ?_
    refine zJ_bipush (v := nI 8) dX12_doDrawnDeed_13 rfl ?_
    refine zP_callVi [_] _ lv_X12_393 (hd2 (d := d - 1) (by omega)) (zSt_ob hs 0 12 rfl) rfl (by omega) (Nat.le_of_ble_eq_true rfl) rfl dX12_doDrawnDeed_15 ?_
    refine zJ_tabIn 48 dX12_doDrawnDeed_18 (by decide) (by decide) rfl (by decide) ?_
    refine zJ_aload_n dX12_doDrawnDeed_48 rfl ?_
    refine zP_getr lf_X12_67 (zSt_ob hs 0 12 rfl) rfl (zSt_rf hs 0 9 43 rfl) dX12_doDrawnDeed_49 ?_
    refine zJ_aload_n dX12_doDrawnDeed_52 rfl ?_
    refine zP_getr lf_X12_101 (zSt_ob hs 0 12 rfl) rfl (zSt_rf hs 0 14 68 rfl) dX12_doDrawnDeed_53 ?_
    refine zJ_iload_n dX12_doDrawnDeed_56 rfl ?_
    refine zP_ecallVi [_, _] _ lv_X12_400 (k_ripUp (d := d - 1) hl (by omega) hs (zSt_scratch hs) (by omega) hR1) (zSt_ob hs 43 6 rfl) rfl (by omega) (Nat.le_of_ble_eq_true rfl) rfl dX12_doDrawnDeed_57 (fun x J hx => ?_)
    refine zJ_pop dX12_doDrawnDeed_60 rfl ?_
    refine zJ_goto 109 dX12_doDrawnDeed_61 (by decide) ?_
    refine zJ_vret rfl dX12_doDrawnDeed_109 ?_
    exact ⟨rfl, J, rfl, fQ_trans hf1 (fQ_fX hx.2.1), by rw [hx0 hx.2.1]; exact h18, hx.2.2⟩
  rw [if_neg k0]
  by_cases k1 : k = 1 ∨ k = 2
  · rw [if_pos k1]
    rcases k1 with rfl | rfl
    · skip
      refine zJ_aload_n dX12_doDrawnDeed_0 rfl ?_
      refine zJ_aload_n dX12_doDrawnDeed_1 rfl ?_
      refine zP_getr lf_X12_19 (zSt_ob hs 0 12 rfl) rfl (zSt_rf hs 0 1 3 rfl) dX12_doDrawnDeed_2 ?_
      refine zP_geti lf_X12_136 (zSt_ob hs 3 0 rfl) rfl dX12_doDrawnDeed_5 ?_
      rw [hW.2.1.2.2.1]
      refine zP_callVi [_] _ lv_X12_393 (hd1 (d := d - 1) (by omega)) (zSt_ob hs 0 12 rfl) rfl (by omega) (Nat.le_of_ble_eq_true rfl) rfl dX12_doDrawnDeed_8 ?_
      refine zJ_istore_m 1 dX12_doDrawnDeed_11 rfl (Nat.le_of_ble_eq_true rfl) (by decide) ?_
      refine zJ_aload_n dX12_doDrawnDeed_12 rfl ?_
      refine zJ_bipush (v := nI 8) dX12_doDrawnDeed_13 rfl ?_
      refine zP_callVi [_] _ lv_X12_393 (hd2 (d := d - 1) (by omega)) (zSt_ob hs 0 12 rfl) rfl (by omega) (Nat.le_of_ble_eq_true rfl) rfl dX12_doDrawnDeed_15 ?_
      refine zJ_tabIn 64 dX12_doDrawnDeed_18 (by decide) (by decide) rfl (by decide) ?_
      refine zJ_aload_n dX12_doDrawnDeed_64 rfl ?_
      refine zP_getr lf_X12_67 (zSt_ob hs 0 12 rfl) rfl (zSt_rf hs 0 9 43 rfl) dX12_doDrawnDeed_65 ?_
      refine zJ_aload_n dX12_doDrawnDeed_68 rfl ?_
      refine zP_getr lf_X12_101 (zSt_ob hs 0 12 rfl) rfl (zSt_rf hs 0 14 68 rfl) dX12_doDrawnDeed_69 ?_
      refine zJ_iload_n dX12_doDrawnDeed_72 rfl ?_
      refine zP_ecallVi [_, _] _ lv_X12_403 (k_X6_layAnew (d := d - 1) hl (by omega) hs (zSt_scratch hs) (by decide) (by omega) hnN hW1 hR1) (zSt_ob hs 43 6 rfl) rfl (by omega) (Nat.le_of_ble_eq_true rfl) rfl dX12_doDrawnDeed_73 (fun x J hx => ?_)
      refine zJ_pop dX12_doDrawnDeed_76 rfl ?_
      refine zJ_goto 109 dX12_doDrawnDeed_77 (by decide) ?_
      refine zJ_vret rfl dX12_doDrawnDeed_109 ?_
      exact ⟨rfl, J, rfl, fQ_trans hf1 (fQ_fX hx.2.1), by rw [hx0 hx.2.1]; exact h18, hx.2.2⟩
    · skip
      refine zJ_aload_n dX12_doDrawnDeed_0 rfl ?_
      refine zJ_aload_n dX12_doDrawnDeed_1 rfl ?_
      refine zP_getr lf_X12_19 (zSt_ob hs 0 12 rfl) rfl (zSt_rf hs 0 1 3 rfl) dX12_doDrawnDeed_2 ?_
      refine zP_geti lf_X12_136 (zSt_ob hs 3 0 rfl) rfl dX12_doDrawnDeed_5 ?_
      rw [hW.2.1.2.2.1]
      refine zP_callVi [_] _ lv_X12_393 (hd1 (d := d - 1) (by omega)) (zSt_ob hs 0 12 rfl) rfl (by omega) (Nat.le_of_ble_eq_true rfl) rfl dX12_doDrawnDeed_8 ?_
      refine zJ_istore_m 1 dX12_doDrawnDeed_11 rfl (Nat.le_of_ble_eq_true rfl) (by decide) ?_
      refine zJ_aload_n dX12_doDrawnDeed_12 rfl ?_
      refine zJ_bipush (v := nI 8) dX12_doDrawnDeed_13 rfl ?_
      refine zP_callVi [_] _ lv_X12_393 (hd2 (d := d - 1) (by omega)) (zSt_ob hs 0 12 rfl) rfl (by omega) (Nat.le_of_ble_eq_true rfl) rfl dX12_doDrawnDeed_15 ?_
      refine zJ_tabIn 64 dX12_doDrawnDeed_18 (by decide) (by decide) rfl (by decide) ?_
      refine zJ_aload_n dX12_doDrawnDeed_64 rfl ?_
      refine zP_getr lf_X12_67 (zSt_ob hs 0 12 rfl) rfl (zSt_rf hs 0 9 43 rfl) dX12_doDrawnDeed_65 ?_
      refine zJ_aload_n dX12_doDrawnDeed_68 rfl ?_
      refine zP_getr lf_X12_101 (zSt_ob hs 0 12 rfl) rfl (zSt_rf hs 0 14 68 rfl) dX12_doDrawnDeed_69 ?_
      refine zJ_iload_n dX12_doDrawnDeed_72 rfl ?_
      refine zP_ecallVi [_, _] _ lv_X12_403 (k_X6_layAnew (d := d - 1) hl (by omega) hs (zSt_scratch hs) (by decide) (by omega) hnN hW1 hR1) (zSt_ob hs 43 6 rfl) rfl (by omega) (Nat.le_of_ble_eq_true rfl) rfl dX12_doDrawnDeed_73 (fun x J hx => ?_)
      refine zJ_pop dX12_doDrawnDeed_76 rfl ?_
      refine zJ_goto 109 dX12_doDrawnDeed_77 (by decide) ?_
      refine zJ_vret rfl dX12_doDrawnDeed_109 ?_
      exact ⟨rfl, J, rfl, fQ_trans hf1 (fQ_fX hx.2.1), by rw [hx0 hx.2.1]; exact h18, hx.2.2⟩
  rw [if_neg k1]
  by_cases k3 : k = 3
  · rw [if_pos k3]
    subst k3
    refine zJ_aload_n dX12_doDrawnDeed_0 rfl ?_
    refine zJ_aload_n dX12_doDrawnDeed_1 rfl ?_
    refine zP_getr lf_X12_19 (zSt_ob hs 0 12 rfl) rfl (zSt_rf hs 0 1 3 rfl) dX12_doDrawnDeed_2 ?_
    refine zP_geti lf_X12_136 (zSt_ob hs 3 0 rfl) rfl dX12_doDrawnDeed_5 ?_
    rw [hW.2.1.2.2.1]
    refine zP_callVi [_] _ lv_X12_393 (hd1 (d := d - 1) (by omega)) (zSt_ob hs 0 12 rfl) rfl (by omega) (Nat.le_of_ble_eq_true rfl) rfl dX12_doDrawnDeed_8 ?_
    refine zJ_istore_m 1 dX12_doDrawnDeed_11 rfl (Nat.le_of_ble_eq_true rfl) (by decide) ?_
    refine zJ_aload_n dX12_doDrawnDeed_12 rfl ?_
    refine zJ_bipush (v := nI 8) dX12_doDrawnDeed_13 rfl ?_
    refine zP_callVi [_] _ lv_X12_393 (hd2 (d := d - 1) (by omega)) (zSt_ob hs 0 12 rfl) rfl (by omega) (Nat.le_of_ble_eq_true rfl) rfl dX12_doDrawnDeed_15 ?_
    refine zJ_tabIn 80 dX12_doDrawnDeed_18 (by decide) (by decide) rfl (by decide) ?_
    refine zJ_aload_n dX12_doDrawnDeed_80 rfl ?_
    refine zP_getr lf_X12_101 (zSt_ob hs 0 12 rfl) rfl (zSt_rf hs 0 14 68 rfl) dX12_doDrawnDeed_81 ?_
    refine zP_getr lf_X12_214 (zSt_ob hs 68 8 rfl) rfl (zSt_rf hs 68 4 73 rfl) dX12_doDrawnDeed_84 ?_
    refine zJ_iload_n dX12_doDrawnDeed_87 rfl ?_
    refine zJ_aload_n dX12_doDrawnDeed_88 rfl ?_
    refine zJ_bipush (v := nI 10) dX12_doDrawnDeed_89 rfl ?_
    refine zP_callVi [_] _ lv_X12_393 (k_drawn (k := 10) (d := d - 1) hl (by omega) hs (by decide) (by decide) h18) (zSt_ob hs 0 12 rfl) rfl (by omega) (Nat.le_of_ble_eq_true rfl) rfl dX12_doDrawnDeed_91 ?_
    refine zP_iast (zSt_ar hs 73 6 rfl) (by first | assumption | with_reducible exact vp_in_nI (by omega) (by omega) | (simp (disch := omega) only [nI_add, pk_mul, pk_sub, pk_div, pk_rem, nI_clamp]; with_reducible exact vp_in_nI (by omega) (by omega))) dX12_doDrawnDeed_94 ?_
    refine zJ_goto 109 dX12_doDrawnDeed_95 (by decide) ?_
    refine zJ_vret rfl dX12_doDrawnDeed_109 ?_
    rw [nI_clamp (by omega)]
    refine ⟨rfl, _, rfl, ?_, by rw [zup_row (by decide), zup_same, upd_at], zRow_cr (s := 68) (by omega) (zRow_zup hR1 (by decide))⟩
    have h9 := fQ_seed (x := sdN (sdN (sdN s))) hf1
    exact ⟨fun a q1 q2 q3 q4 q5 q6 => by rw [zup_row (by omega)]; exact h9.1 a q1 q2 q3 q4 q5 q6, fun k hk => by rw [zup_row (by decide)]; exact h9.2 k hk⟩
  · rw [if_neg k3]
    have hsw : (nI k).toInt < 0 ∨ 3 < (nI k).toInt := Or.inr (by rw [nI_toInt (by omega)]; omega)
    refine zJ_aload_n dX12_doDrawnDeed_0 rfl ?_
    refine zJ_aload_n dX12_doDrawnDeed_1 rfl ?_
    refine zP_getr lf_X12_19 (zSt_ob hs 0 12 rfl) rfl (zSt_rf hs 0 1 3 rfl) dX12_doDrawnDeed_2 ?_
    refine zP_geti lf_X12_136 (zSt_ob hs 3 0 rfl) rfl dX12_doDrawnDeed_5 ?_
    rw [hW.2.1.2.2.1]
    refine zP_callVi [_] _ lv_X12_393 (hd1 (d := d - 1) (by omega)) (zSt_ob hs 0 12 rfl) rfl (by omega) (Nat.le_of_ble_eq_true rfl) rfl dX12_doDrawnDeed_8 ?_
    refine zJ_istore_m 1 dX12_doDrawnDeed_11 rfl (Nat.le_of_ble_eq_true rfl) (by decide) ?_
    refine zJ_aload_n dX12_doDrawnDeed_12 rfl ?_
    refine zJ_bipush (v := nI 8) dX12_doDrawnDeed_13 rfl ?_
    refine zP_callVi [_] _ lv_X12_393 (hd2 (d := d - 1) (by omega)) (zSt_ob hs 0 12 rfl) rfl (by omega) (Nat.le_of_ble_eq_true rfl) rfl dX12_doDrawnDeed_15 ?_
    refine zJ_tabOut 98 dX12_doDrawnDeed_18 hsw (by decide) ?_
    refine zJ_aload_n dX12_doDrawnDeed_98 rfl ?_
    refine zP_getr lf_X12_67 (zSt_ob hs 0 12 rfl) rfl (zSt_rf hs 0 9 43 rfl) dX12_doDrawnDeed_99 ?_
    refine zJ_aload_n dX12_doDrawnDeed_102 rfl ?_
    refine zP_getr lf_X12_101 (zSt_ob hs 0 12 rfl) rfl (zSt_rf hs 0 14 68 rfl) dX12_doDrawnDeed_103 ?_
    refine zP_ecallVv [_] _ lv_X12_298 (k_X6_goRound (d := d - 1) hl (by omega) hs (zSt_scratch hs) (by decide) hW1 hR1 hok) (zSt_ob hs 43 6 rfl) rfl (by omega) (Nat.le_of_ble_eq_true rfl) rfl dX12_doDrawnDeed_106 (fun J hJ => ?_)
    refine zJ_vret rfl dX12_doDrawnDeed_109 ?_
    exact ⟨rfl, J, rfl, fQ_trans hf1 (fQ_fX hJ.1), by rw [hx0 hJ.1]; exact h18, hJ.2⟩
noncomputable def oncM (b : zWo) (q : Nat) (s : Int32 × rwT) : Int32 × rwT :=
  let t := if 0 < bN b then deedM b s else s
  (sdN t.1, if drN (sdN t.1) 16 < q then easM t.2 (nI 1) else t.2)
noncomputable def seaM (b : zWo) (q : Nat) (s : Int32 × rwT) : Nat → Int32 × rwT := lp (fun _ t => oncM b q t) s
theorem onc_ok {b : zWo} {q : Nat} {s : Int32 × rwT} (hb : bdOk b) (hg : gnOk b) (h : okR b s.2) : okR b (oncM b q s).2 := by
  obtain ⟨t, ht⟩ : ∃ t, (if 0 < bN b then deedM b s else s) = t := ⟨_, rfl⟩
  have h1 : okR b t.2 := by
    rw [← ht]
    by_cases z : 0 < bN b
    · rw [if_pos z]; exact deed_ok hb hg z h
    · rw [if_neg z]; exact h
  have e : oncM b q s = (sdN t.1, if drN (sdN t.1) 16 < q then easM t.2 (nI 1) else t.2) := by subst ht; rfl
  rw [e]
  show okR b (if drN (sdN t.1) 16 < q then easM t.2 (nI 1) else t.2)
  by_cases z : drN (sdN t.1) 16 < q
  · rw [if_pos z]; exact okR_eas hb h1 ⟨1, by decide, rfl⟩
  · rw [if_neg z]; exact h1
theorem sea_ok {b : zWo} {q : Nat} {s : Int32 × rwT} (hb : bdOk b) (hg : gnOk b) (h : okR b s.2) : ∀ k, okR b (seaM b q s k).2
  | 0 => h
  | k + 1 => onc_ok hb hg (sea_ok hb hg h k)
theorem k_goSeason (hl : l.stackTraces = false) (hd : 10 ≤ d) (hs : zSt g) {S : sT} (hI : cI I g S) (hok : okS S) {s : Int32} {m q : Nat} (hm : m ≤ 40) (hq : q ≤ 16) : zEv l Xi mX12_goSeason d [.ref 0, .int s, .int (nI m), .int (nI q)] I g (fun J => fQ I J ∧ zRow J 68 (seaM S.2.1 q (s, S.2.2.1) m).2) := by
  refine zC_of hl rfl rfl rfl (Nat.le_of_ble_eq_true rfl) (zav_r (zSt_ob hs 0 12 rfl).1 (zav_i (zav_i (zav_i zav_0)))) ?_
  obtain ⟨hW, hR, hokR, hwk, hwI, hbk⟩ := cI_ctx hI hok
  have hN6 := hW.1.2.2.2.2.1
  have hW2 : ∀ {J : zI}, fQ I J → zWi J S.2.1 := fun h => (cI_fQ hI h).2.2.1
  obtain ⟨b, hb⟩ : ∃ b, S.2.1 = b := ⟨_, rfl⟩
  rw [hb] at hW hN6 hokR ⊢
  have hgn : gnOk b := by rw [← hb]; exact hok.1
  have hW3 : ∀ {J : zI}, fQ I J → zWi J b := fun h => by rw [← hb]; exact hW2 h
  have hx0 : ∀ {J K : zI}, fX 68 J K → K 0 = J 0 := fun h => h 0 (by decide) (by decide) (by decide) (by decide) (by decide) (by decide) (by decide) (by decide) (by decide)
  have h39 : ∀ (J : zI) (t u : Int32 × rwT) (i : Nat), fQ I J → J 0 18 = t.1 → zRow J 68 t.2 → u = (sdN t.1, if drN (sdN t.1) 16 < q then easM t.2 (nI 1) else t.2) → (∀ K, fQ I K → K 0 18 = u.1 → zRow K 68 u.2 → zJ l Xi mX12_goSeason d 0 0 19 [some (.ref 0), some (.int s), some (.int (nI m)), some (.int (nI q)), some (.int (nI (i + 1)))] [] (K, g) (fun r' h' => r' = .inl none ∧ ∃ I', h' = (I', g) ∧ fQ I I' ∧ zRow I' 68 (seaM b q (s, S.2.2.1) m).2)) → zJ l Xi mX12_goSeason d 0 0 39 [some (.ref 0), some (.int s), some (.int (nI m)), some (.int (nI q)), some (.int (nI i))] [] (J, g) (fun r' h' => r' = .inl none ∧ ∃ I', h' = (I', g) ∧ fQ I I' ∧ zRow I' 68 (seaM b q (s, S.2.2.1) m).2) := by
    intro J t u i hf h18 hr hu ih
    have hdr := drN_lt (s := sdN t.1) (k := 16) (by decide)
    have hr1 : zRow (zup J 0 18 (sdN t.1)) 68 t.2 := zRow_zup hr (by decide)
    refine zJ_aload_n dX12_goSeason_39 rfl ?_
    refine zJ_bipush (v := nI 16) dX12_goSeason_40 rfl ?_
    refine zP_callVi [_] _ lv_X12_393 (k_drawn (k := 16) (d := d - 1) hl (by omega) hs (by decide) (by decide) h18) (zSt_ob hs 0 12 rfl) rfl (by omega) (Nat.le_of_ble_eq_true rfl) rfl dX12_goSeason_42 ?_
    refine zJ_iload_n dX12_goSeason_45 rfl ?_
    refine zJ_icmp_ge 61 dX12_goSeason_46 (by decide) (fun c46 => ?_) (fun c46 => ?_)
    · skip
      refine zJ_iinc1 dX12_goSeason_61 rfl (by decide) ?_
      refine zJ_goto 19 dX12_goSeason_64 (by decide) ?_
      have e : ¬ drN (sdN t.1) 16 < q := fun z => absurd c46 (nI_ge z (by omega))
      rw [if_neg e] at hu
      subst hu
      exact ih _ (fQ_seed hf) (by rw [zup_same, upd_at]) hr1
    · skip
      refine zJ_aload_n dX12_goSeason_49 rfl ?_
      refine zP_getr lf_X12_67 (zSt_ob hs 0 12 rfl) rfl (zSt_rf hs 0 9 43 rfl) dX12_goSeason_50 ?_
      refine zJ_aload_n dX12_goSeason_53 rfl ?_
      refine zP_getr lf_X12_101 (zSt_ob hs 0 12 rfl) rfl (zSt_rf hs 0 14 68 rfl) dX12_goSeason_54 ?_
      refine zJ_iconst (v := nI 1) dX12_goSeason_57 rfl ?_
      refine zP_ecallVv [_, _] _ lv_X12_396 (k_X6_easeAll (d := d - 1) hl (by omega) hs (zSt_scratch hs)) (zSt_ob hs 43 6 rfl) rfl (by omega) (Nat.le_of_ble_eq_true rfl) rfl dX12_goSeason_58 (fun K hK => ?_)
      refine zJ_iinc1 dX12_goSeason_61 rfl (by decide) ?_
      refine zJ_goto 19 dX12_goSeason_64 (by decide) ?_
      have e : drN (sdN t.1) 16 < q := Nat.lt_of_not_le (fun z => c46 (nI_le z (by omega)))
      rw [if_pos e] at hu
      subst hu
      obtain ⟨f, rfl, hf2⟩ := hK
      refine ih _ ?_ (by rw [va_up_row (by decide), zup_same, upd_at]) (eas_eq hr1 hf2)
      have h9 := fQ_seed (x := sdN t.1) hf
      exact ⟨fun a q1 q2 q3 q4 q5 q6 => by rw [va_up_row (by omega)]; exact h9.1 a q1 q2 q3 q4 q5 q6, fun k hk => by rw [va_up_row (by decide)]; exact h9.2 k hk⟩
  have loop : ∀ k i (J : zI), i + k = m → fQ I J → J 0 18 = (seaM b q (s, S.2.2.1) i).1 → zRow J 68 (seaM b q (s, S.2.2.1) i).2 → zJ l Xi mX12_goSeason d 0 0 19 [some (.ref 0), some (.int s), some (.int (nI m)), some (.int (nI q)), some (.int (nI i))] [] (J, g) (fun r' h' => r' = .inl none ∧ ∃ I', h' = (I', g) ∧ fQ I I' ∧ zRow I' 68 (seaM b q (s, S.2.2.1) m).2) := by
    intro k
    induction k with
    | zero =>
      intro i J hi hf h18 hr
      obtain rfl : i = m := by omega
      refine zJ_iload dX12_goSeason_19 rfl ?_
      refine zJ_iload_n dX12_goSeason_21 rfl ?_
      refine zJ_icmp_ge 67 dX12_goSeason_22 (by decide) (fun _ => ?_) (fun c22 => absurd (nI_le (by omega) (by omega)) c22)
      refine zJ_vret rfl dX12_goSeason_67 ?_
      exact ⟨rfl, J, rfl, hf, hr⟩
    | succ k ih =>
      intro i J hi hf h18 hr
      have hWJ := hW3 hf
      have hoi := sea_ok (q := q) (s := (s, S.2.2.1)) hW.1 hgn hokR i
      have hst : seaM b q (s, S.2.2.1) (i + 1) = oncM b q (seaM b q (s, S.2.2.1) i) := rfl
      obtain ⟨t, ht⟩ : ∃ t, seaM b q (s, S.2.2.1) i = t := ⟨_, rfl⟩
      rw [ht] at hst h18 hr hoi
      by_cases hN : 0 < bN b
      · have hu : oncM b q t = (sdN (deedM b t).1, if drN (sdN (deedM b t).1) 16 < q then easM (deedM b t).2 (nI 1) else (deedM b t).2) := by unfold oncM; simp only [if_pos hN]
        refine zJ_iload dX12_goSeason_19 rfl ?_
        refine zJ_iload_n dX12_goSeason_21 rfl ?_
        refine zJ_icmp_ge 67 dX12_goSeason_22 (by decide) (fun c22 => absurd c22 (nI_ge (by omega) (by omega))) (fun _ => ?_)
        refine zJ_aload_n dX12_goSeason_25 rfl ?_
        refine zP_getr lf_X12_19 (zSt_ob hs 0 12 rfl) rfl (zSt_rf hs 0 1 3 rfl) dX12_goSeason_26 ?_
        refine zP_geti lf_X12_136 (zSt_ob hs 3 0 rfl) rfl dX12_goSeason_29 ?_
        rw [hWJ.2.1.2.2.1]
        refine zJ_if_le 39 dX12_goSeason_32 (by decide) (fun c32 => absurd c32 (nI_nle hN (by omega))) (fun _ => ?_)
        refine zJ_aload_n dX12_goSeason_35 rfl ?_
        refine zP_ecallVv [] _ lv_X12_390 (k_deed (s := t.1) (R := t.2) (d := d - 1) hl (by omega) hs hWJ hgn hN hr hoi h18) (zSt_ob hs 0 12 rfl) rfl (by omega) (Nat.le_of_ble_eq_true rfl) rfl dX12_goSeason_36 (fun K hK => ?_)
        exact h39 K (deedM b t) _ i (fQ_trans hf hK.1) hK.2.1 hK.2.2 (hst.trans hu) (fun K2 a1 a2 a3 => ih (i + 1) K2 (by omega) a1 a2 a3)
      · have hu : oncM b q t = (sdN t.1, if drN (sdN t.1) 16 < q then easM t.2 (nI 1) else t.2) := by unfold oncM; simp only [if_neg hN]
        refine zJ_iload dX12_goSeason_19 rfl ?_
        refine zJ_iload_n dX12_goSeason_21 rfl ?_
        refine zJ_icmp_ge 67 dX12_goSeason_22 (by decide) (fun c22 => absurd c22 (nI_ge (by omega) (by omega))) (fun _ => ?_)
        refine zJ_aload_n dX12_goSeason_25 rfl ?_
        refine zP_getr lf_X12_19 (zSt_ob hs 0 12 rfl) rfl (zSt_rf hs 0 1 3 rfl) dX12_goSeason_26 ?_
        refine zP_geti lf_X12_136 (zSt_ob hs 3 0 rfl) rfl dX12_goSeason_29 ?_
        rw [hWJ.2.1.2.2.1]
        refine zJ_if_le 39 dX12_goSeason_32 (by decide) (fun _ => ?_) (fun c32 => absurd (by rw [show bN b = 0 by omega]; decide) c32)
        exact h39 J t _ i hf h18 hr (hst.trans hu) (fun K2 a1 a2 a3 => ih (i + 1) K2 (by omega) a1 a2 a3)
  refine zJ_aload_n dX12_goSeason_0 rfl ?_
  refine zP_getr lf_X12_101 (zSt_ob hs 0 12 rfl) rfl (zSt_rf hs 0 14 68 rfl) dX12_goSeason_1 ?_
  refine zJ_aload_n dX12_goSeason_4 rfl ?_
  refine zP_getr lf_X12_97 (zSt_ob hs 0 12 rfl) rfl (zSt_rf hs 0 13 62 rfl) dX12_goSeason_5 ?_
  refine zP_callVv [_] _ lv_X12_296 (k_X8_copyFrom (d := d - 1) hl (by omega) (zSt_scratch hs) (zSt_state hs)) (zSt_ob hs 68 8 rfl) rfl (by omega) (Nat.le_of_ble_eq_true rfl) rfl dX12_goSeason_8 ?_
  refine zJ_aload_n dX12_goSeason_11 rfl ?_
  refine zJ_iload_n dX12_goSeason_12 rfl ?_
  refine zP_puti lf_X12_387 (zSt_ob hs 0 12 rfl) rfl dX12_goSeason_13 ?_
  refine zJ_iconst (v := nI 0) dX12_goSeason_16 rfl ?_
  refine zJ_istore dX12_goSeason_17 (Nat.le_of_ble_eq_true rfl) (by decide) ?_
  exact loop m 0 _ (by omega) (fQ_seed (fQ_fZ (fZ_copyS fZ_rfl))) (by rw [zup_same, upd_at]; rfl) (zRow_zup (copyS_row (by decide) hR) (by decide))
def seaV (b : zWo) (R : rwT) (k : Nat) : Int32 := if k = 0 then sOver b R else if k = 1 then sJoin b R else if k = 2 then R 518 else sUses R
theorem k_season (hl : l.stackTraces = false) (hd : 12 ≤ d) (hs : zSt g) {S : sT} (hI : cI I g S) (hok : okS S) {s : Int32} {m q k : Nat} (hm1 : 1 ≤ m) (hm : m ≤ 40) (hq : q ≤ 16) (hk : k ≤ 3) : zEi l Xi mX12_season d [.ref 0, .int s, .int (nI m), .int (nI q), .int (nI k)] I g (fun v J => v = seaV S.2.1 (seaM S.2.1 q (s, S.2.2.1) m).2 k ∧ cI J g S ∧ fC I J) := by
  refine zC_of hl rfl rfl rfl (Nat.le_of_ble_eq_true rfl) (zav_r (zSt_ob hs 0 12 rfl).1 (zav_i (zav_i (zav_i (zav_i zav_0))))) ?_
  refine zJ_aload_n dX12_season_0 rfl ?_
  refine zJ_iload_n dX12_season_1 rfl ?_
  refine zJ_iconst (v := nI 1) dX12_season_2 rfl ?_
  refine zJ_bipush (v := nI 40) dX12_season_3 rfl ?_
  refine zP_callVv [_, _, _] _ lv_X12_276 (k_needRange (d := d - 1) hl (by omega) hs ⟨nI_nlt hm1 (by omega), (nI_leI (by omega) (by omega)).mpr hm⟩) (zSt_ob hs 0 12 rfl) rfl (by omega) (Nat.le_of_ble_eq_true rfl) rfl dX12_season_5 ?_
  refine zJ_aload_n dX12_season_8 rfl ?_
  refine zJ_iload_n dX12_season_9 rfl ?_
  refine zJ_iconst (v := nI 0) dX12_season_10 rfl ?_
  refine zJ_bipush (v := nI 16) dX12_season_11 rfl ?_
  refine zP_callVv [_, _, _] _ lv_X12_276 (k_needRange (d := d - 1) hl (by omega) hs ⟨nI_pos (by omega), (nI_leI (by omega) (by omega)).mpr hq⟩) (zSt_ob hs 0 12 rfl) rfl (by omega) (Nat.le_of_ble_eq_true rfl) rfl dX12_season_13 ?_
  refine zJ_aload_n dX12_season_16 rfl ?_
  refine zJ_iload dX12_season_17 rfl ?_
  refine zJ_iconst (v := nI 3) dX12_season_19 rfl ?_
  refine zP_callVv [_, _] _ lv_X12_176 (k_needWhat (d := d - 1) hl (by omega) hs (k_what hk (by omega))) (zSt_ob hs 0 12 rfl) rfl (by omega) (Nat.le_of_ble_eq_true rfl) rfl dX12_season_20 ?_
  refine zJ_aload_n dX12_season_23 rfl ?_
  refine zJ_iload_n dX12_season_24 rfl ?_
  refine zJ_iload_n dX12_season_25 rfl ?_
  refine zJ_iload_n dX12_season_26 rfl ?_
  refine zP_ecallVv [_, _, _] _ lv_X12_341 (k_goSeason (d := d - 1) hl (by omega) hs hI hok hm hq) (zSt_ob hs 0 12 rfl) rfl (by omega) (Nat.le_of_ble_eq_true rfl) rfl dX12_season_27 (fun J hJ => ?_)
  obtain ⟨hf, hr⟩ := hJ
  obtain ⟨Q, hQ⟩ : ∃ Q, (seaM S.2.1 q (s, S.2.2.1) m).2 = Q := ⟨_, rfl⟩
  rw [hQ] at hr ⊢
  have hWJ := (cI_fQ hI hf).2.2.1
  have hkk : k = 0 ∨ k = 1 ∨ k = 2 ∨ k = 3 := by omega
  rcases hkk with rfl | rfl | rfl | rfl
  · skip
    refine zJ_iload dX12_season_30 rfl ?_
    refine zJ_tabIn 60 dX12_season_32 (by decide) (by decide) rfl (by decide) ?_
    refine zJ_aload_n dX12_season_60 rfl ?_
    refine zP_getr lf_X12_58 (zSt_ob hs 0 12 rfl) rfl (zSt_rf hs 0 8 41 rfl) dX12_season_61 ?_
    refine zJ_aload_n dX12_season_64 rfl ?_
    refine zP_getr lf_X12_101 (zSt_ob hs 0 12 rfl) rfl (zSt_rf hs 0 14 68 rfl) dX12_season_65 ?_
    refine zP_callVi [_] _ lv_X12_192 (k_X9_overPlaces (d := d - 1) hl (by omega) hs (zSt_scratch hs)) (zSt_ob hs 41 9 rfl) rfl (by omega) (Nat.le_of_ble_eq_true rfl) rfl dX12_season_68 ?_
    refine zJ_iret rfl dX12_season_71 ?_
    exact ⟨_, J, rfl, rfl, q_over hWJ hr, cQ hI hf⟩
  · skip
    refine zJ_iload dX12_season_30 rfl ?_
    refine zJ_tabIn 72 dX12_season_32 (by decide) (by decide) rfl (by decide) ?_
    refine zJ_aload_n dX12_season_72 rfl ?_
    refine zP_getr lf_X12_58 (zSt_ob hs 0 12 rfl) rfl (zSt_rf hs 0 8 41 rfl) dX12_season_73 ?_
    refine zJ_aload_n dX12_season_76 rfl ?_
    refine zP_getr lf_X12_101 (zSt_ob hs 0 12 rfl) rfl (zSt_rf hs 0 14 68 rfl) dX12_season_77 ?_
    refine zP_callVi [_] _ lv_X12_188 (k_X9_joinedBits (d := d - 1) hl (by omega) hs hWJ.2.1 (zSt_scratch hs)) (zSt_ob hs 41 9 rfl) rfl (by omega) (Nat.le_of_ble_eq_true rfl) rfl dX12_season_80 ?_
    refine zJ_iret rfl dX12_season_83 ?_
    exact ⟨_, J, rfl, rfl, q_join hWJ hr, cQ hI hf⟩
  · skip
    refine zJ_iload dX12_season_30 rfl ?_
    refine zJ_tabIn 84 dX12_season_32 (by decide) (by decide) rfl (by decide) ?_
    refine zJ_aload_n dX12_season_84 rfl ?_
    refine zP_getr lf_X12_101 (zSt_ob hs 0 12 rfl) rfl (zSt_rf hs 0 14 68 rfl) dX12_season_85 ?_
    refine zP_geti lf_X12_185 (zSt_ob hs 68 8 rfl) rfl dX12_season_88 ?_
    refine zJ_iret rfl dX12_season_91 ?_
    exact ⟨_, J, rfl, rfl, hr.2.2.2.2.2, cQ hI hf⟩
  · skip
    refine zJ_iload dX12_season_30 rfl ?_
    refine zJ_tabOut 92 dX12_season_32 (Or.inr (by decide)) (by decide) ?_
    refine zJ_aload_n dX12_season_92 rfl ?_
    refine zP_getr lf_X12_58 (zSt_ob hs 0 12 rfl) rfl (zSt_rf hs 0 8 41 rfl) dX12_season_93 ?_
    refine zJ_aload_n dX12_season_96 rfl ?_
    refine zP_getr lf_X12_101 (zSt_ob hs 0 12 rfl) rfl (zSt_rf hs 0 14 68 rfl) dX12_season_97 ?_
    refine zP_callVi [_] _ lv_X12_202 (k_X9_usesTogether (d := d - 1) hl (by omega) hs (zSt_scratch hs)) (zSt_ob hs 41 9 rfl) rfl (by omega) (Nat.le_of_ble_eq_true rfl) rfl dX12_season_100 ?_
    refine zJ_iret rfl dX12_season_103 ?_
    exact ⟨_, J, rfl, rfl, q_uses hr, cQ hI hf⟩
/-- fewest over, most over, how often joined, behind k seeds -/
noncomputable def spnL (b : zWo) (R : rwT) (s : Int32) (m q n : Nat) : Nat → Int32 × Int32 × Int32 := lp (fun i t => let Q := (seaM b q (s + nI i, R) m).2; let v := sOver b Q; (if v < t.1 then v else t.1, if t.2.1 < v then v else t.2.1, t.2.2 + if jnd Q (bpc b) (bpn b) n then 1 else 0)) (nI 64, nI 0, nI 0)
noncomputable def spnV (b : zWo) (R : rwT) (s : Int32) (c m q n k : Nat) : Int32 := if k = 2 then (spnL b R s m q n c).2.2 else if k = 0 then (spnL b R s m q n c).1 else (spnL b R s m q n c).2.1
theorem k_span (hl : l.stackTraces = false) (hd : 12 ≤ d) (hs : zSt g) {S : sT} (hI : cI I g S) (hok : okS S) {s : Int32} {c m q k n : Nat} (hc1 : 1 ≤ c) (hc : c ≤ 5) (hm1 : 1 ≤ m) (hm : m ≤ 40) (hq : q ≤ 16) (hk : k ≤ 2) (hn : n < bN S.2.1) : zEi l Xi mX12_span d [.ref 0, .int s, .int (nI c), .int (nI m), .int (nI q), .int (nI k), .int (nI n)] I g (fun v J => v = spnV S.2.1 S.2.2.1 s c m q n k ∧ cI J g S ∧ fC I J) := by
  refine zC_of hl rfl rfl rfl (Nat.le_of_ble_eq_true rfl) (zav_r (zSt_ob hs 0 12 rfl).1 (zav_i (zav_i (zav_i (zav_i (zav_i (zav_i zav_0))))))) ?_
  obtain ⟨hW, hR, hokR, hwk, hwI, hbk⟩ := cI_ctx hI hok
  have hN6 := hW.1.2.2.2.2.1
  have loop : ∀ j i (J : zI), i + j = c → fQ I J → zJ l Xi mX12_span d 0 0 50 [some (.ref 0), some (.int s), some (.int (nI c)), some (.int (nI m)), some (.int (nI q)), some (.int (nI k)), some (.int (nI n)), some (.int (spnL S.2.1 S.2.2.1 s m q n i).1), some (.int (spnL S.2.1 S.2.2.1 s m q n i).2.1), some (.int (spnL S.2.1 S.2.2.1 s m q n i).2.2), some (.int (nI i)), none] [] (J, g) (fun r' h' => ∃ x I', r' = .inl (some (.int x)) ∧ h' = (I', g) ∧ x = spnV S.2.1 S.2.2.1 s c m q n k ∧ cI I' g S ∧ fC I I') := by
    intro j
    induction j with
    | zero =>
      intro i J hi hf
      obtain rfl : i = c := by omega
      have hkk : k = 0 ∨ k = 1 ∨ k = 2 := by omega
      rcases hkk with rfl | rfl | rfl
      · skip
        refine zJ_iload dX12_span_50 rfl ?_
        refine zJ_iload_n dX12_span_52 rfl ?_
        refine zJ_icmp_ge 144 dX12_span_53 (by decide) (fun _ => ?_) (fun c53 => absurd (nI_le (by omega) (by omega)) c53)
        refine zJ_iload dX12_span_144 rfl ?_
        refine zJ_iconst (v := nI 2) dX12_span_146 rfl ?_
        refine zJ_icmp_ne 153 dX12_span_147 (by decide) (fun _ => ?_) (fun c147 => absurd c147 (by decide))
        refine zJ_iload dX12_span_153 rfl ?_
        refine zJ_if_ne 163 dX12_span_155 (by decide) (fun c155 => absurd rfl c155) (fun _ => ?_)
        refine zJ_iload dX12_span_158 rfl ?_
        refine zJ_goto 165 dX12_span_160 (by decide) ?_
        refine zJ_iret rfl dX12_span_165 ?_
        exact ⟨_, J, rfl, rfl, rfl, cQ hI hf⟩
      · skip
        refine zJ_iload dX12_span_50 rfl ?_
        refine zJ_iload_n dX12_span_52 rfl ?_
        refine zJ_icmp_ge 144 dX12_span_53 (by decide) (fun _ => ?_) (fun c53 => absurd (nI_le (by omega) (by omega)) c53)
        refine zJ_iload dX12_span_144 rfl ?_
        refine zJ_iconst (v := nI 2) dX12_span_146 rfl ?_
        refine zJ_icmp_ne 153 dX12_span_147 (by decide) (fun _ => ?_) (fun c147 => absurd c147 (by decide))
        refine zJ_iload dX12_span_153 rfl ?_
        refine zJ_if_ne 163 dX12_span_155 (by decide) (fun _ => ?_) (fun c155 => absurd c155 (by decide))
        refine zJ_iload dX12_span_163 rfl ?_
        refine zJ_iret rfl dX12_span_165 ?_
        exact ⟨_, J, rfl, rfl, rfl, cQ hI hf⟩
      · skip
        refine zJ_iload dX12_span_50 rfl ?_
        refine zJ_iload_n dX12_span_52 rfl ?_
        refine zJ_icmp_ge 144 dX12_span_53 (by decide) (fun _ => ?_) (fun c53 => absurd (nI_le (by omega) (by omega)) c53)
        refine zJ_iload dX12_span_144 rfl ?_
        refine zJ_iconst (v := nI 2) dX12_span_146 rfl ?_
        refine zJ_icmp_ne 153 dX12_span_147 (by decide) (fun c147 => absurd rfl c147) (fun _ => ?_)
        refine zJ_iload dX12_span_150 rfl ?_
        refine zJ_iret rfl dX12_span_152 ?_
        exact ⟨_, J, rfl, rfl, rfl, cQ hI hf⟩
    | succ j ih =>
      intro i J hi hf
      have hIJ := cI_fQ hI hf
      obtain ⟨Q, hQ⟩ : ∃ Q, (seaM S.2.1 q (s + nI i, S.2.2.1) m).2 = Q := ⟨_, rfl⟩
      obtain ⟨t, ht⟩ : ∃ t, spnL S.2.1 S.2.2.1 s m q n i = t := ⟨_, rfl⟩
      have hst : spnL S.2.1 S.2.2.1 s m q n (i + 1) = (if sOver S.2.1 Q < t.1 then sOver S.2.1 Q else t.1, if t.2.1 < sOver S.2.1 Q then sOver S.2.1 Q else t.2.1, t.2.2 + if jnd Q (bpc S.2.1) (bpn S.2.1) n then 1 else 0) := by rw [← hQ, ← ht]; rfl
      have IH := fun K h1 => ih (i + 1) K (by omega) h1
      rw [hst] at IH
      rw [ht]
      refine zJ_iload dX12_span_50 rfl ?_
      refine zJ_iload_n dX12_span_52 rfl ?_
      refine zJ_icmp_ge 144 dX12_span_53 (by decide) (fun c53 => absurd c53 (nI_ge (by omega) (by omega))) (fun _ => ?_)
      refine zJ_aload_n dX12_span_56 rfl ?_
      refine zJ_iload_n dX12_span_57 rfl ?_
      refine zJ_iload dX12_span_58 rfl ?_
      refine zJ_iadd dX12_span_60 ?_
      refine zJ_iload_n dX12_span_61 rfl ?_
      refine zJ_iload dX12_span_62 rfl ?_
      refine zP_ecallVv [_, _, _] _ lv_X12_341 (k_goSeason (d := d - 1) hl (by omega) hs hIJ hok hm hq) (zSt_ob hs 0 12 rfl) rfl (by omega) (Nat.le_of_ble_eq_true rfl) rfl dX12_span_64 (fun K hK => ?_)
      rw [hQ] at hK
      have hWK := (cI_fQ hIJ hK.1).2.2.1
      refine zJ_aload_n dX12_span_67 rfl ?_
      refine zP_getr lf_X12_58 (zSt_ob hs 0 12 rfl) rfl (zSt_rf hs 0 8 41 rfl) dX12_span_68 ?_
      refine zJ_aload_n dX12_span_71 rfl ?_
      refine zP_getr lf_X12_101 (zSt_ob hs 0 12 rfl) rfl (zSt_rf hs 0 14 68 rfl) dX12_span_72 ?_
      refine zP_callVi [_] _ lv_X12_192 (k_X9_overPlaces (d := d - 1) hl (by omega) hs (zSt_scratch hs)) (zSt_ob hs 41 9 rfl) rfl (by omega) (Nat.le_of_ble_eq_true rfl) rfl dX12_span_75 ?_
      rw [q_over hWK hK.2]
      refine zJ_istore dX12_span_78 (Nat.le_of_ble_eq_true rfl) (by decide) ?_
      refine zJ_iload dX12_span_80 rfl ?_
      refine zJ_iload dX12_span_82 rfl ?_
      refine zJ_icmp_ge 92 dX12_span_84 (by decide) (fun c84 => ?_) (fun c84 => ?_)
      · skip
        refine zJ_iload dX12_span_92 rfl ?_
        refine zJ_istore dX12_span_94 (Nat.le_of_ble_eq_true rfl) (by decide) ?_
        refine zJ_iload dX12_span_96 rfl ?_
        refine zJ_iload dX12_span_98 rfl ?_
        refine zJ_icmp_le 108 dX12_span_100 (by decide) (fun c100 => ?_) (fun c100 => ?_)
        · skip
          refine zJ_iload dX12_span_108 rfl ?_
          refine zJ_istore dX12_span_110 (Nat.le_of_ble_eq_true rfl) (by decide) ?_
          refine zJ_iload dX12_span_112 rfl ?_
          refine zJ_aload_n dX12_span_114 rfl ?_
          refine zP_getr lf_X12_58 (zSt_ob hs 0 12 rfl) rfl (zSt_rf hs 0 8 41 rfl) dX12_span_115 ?_
          refine zJ_aload_n dX12_span_118 rfl ?_
          refine zP_getr lf_X12_101 (zSt_ob hs 0 12 rfl) rfl (zSt_rf hs 0 14 68 rfl) dX12_span_119 ?_
          refine zJ_iload dX12_span_122 rfl ?_
          refine zP_callVi [_, _] _ lv_X12_244 (k_X9_isJoined (d := d - 1) hl (by omega) hs hWK.2.1 (zSt_scratch hs) (by omega)) (zSt_ob hs 41 9 rfl) rfl (by omega) (Nat.le_of_ble_eq_true rfl) rfl dX12_span_124 ?_
          rw [jnd_R hWK hK.2 (by omega)]
          refine zJ_if_eq 134 dX12_span_127 (by decide) (fun c127 => ?_) (fun c127 => ?_)
          · replace c127 := zb0.mp c127
            refine zJ_iconst (v := nI 0) dX12_span_134 rfl ?_
            refine zJ_iadd dX12_span_135 ?_
            refine zJ_istore dX12_span_136 (Nat.le_of_ble_eq_true rfl) (by decide) ?_
            refine zJ_iinc1 dX12_span_138 rfl (by decide) ?_
            refine zJ_goto 50 dX12_span_141 (by decide) ?_
            have h9 := IH K (fQ_trans hf hK.1)
            rw [if_neg (show ¬ sOver S.2.1 Q < t.1 from Int32.not_lt.mpr c84), if_neg (show ¬ t.2.1 < sOver S.2.1 Q from Int32.not_lt.mpr c100), c127] at h9
            exact zJ_back (zle_r (zle_r (zle_r (zle_r (zle_r (zle_r (zle_r (zle_r (zle_r (zle_r (zle_r (zle_n zle_0)))))))))))) rfl h9
          · replace c127 := zb1.mp c127
            refine zJ_iconst (v := nI 1) dX12_span_130 rfl ?_
            refine zJ_goto 135 dX12_span_131 (by decide) ?_
            refine zJ_iadd dX12_span_135 ?_
            refine zJ_istore dX12_span_136 (Nat.le_of_ble_eq_true rfl) (by decide) ?_
            refine zJ_iinc1 dX12_span_138 rfl (by decide) ?_
            refine zJ_goto 50 dX12_span_141 (by decide) ?_
            have h9 := IH K (fQ_trans hf hK.1)
            rw [if_neg (show ¬ sOver S.2.1 Q < t.1 from Int32.not_lt.mpr c84), if_neg (show ¬ t.2.1 < sOver S.2.1 Q from Int32.not_lt.mpr c100), c127] at h9
            exact zJ_back (zle_r (zle_r (zle_r (zle_r (zle_r (zle_r (zle_r (zle_r (zle_r (zle_r (zle_r (zle_n zle_0)))))))))))) rfl h9
        · skip
          refine zJ_iload dX12_span_103 rfl ?_
          refine zJ_goto 110 dX12_span_105 (by decide) ?_
          refine zJ_istore dX12_span_110 (Nat.le_of_ble_eq_true rfl) (by decide) ?_
          refine zJ_iload dX12_span_112 rfl ?_
          refine zJ_aload_n dX12_span_114 rfl ?_
          refine zP_getr lf_X12_58 (zSt_ob hs 0 12 rfl) rfl (zSt_rf hs 0 8 41 rfl) dX12_span_115 ?_
          refine zJ_aload_n dX12_span_118 rfl ?_
          refine zP_getr lf_X12_101 (zSt_ob hs 0 12 rfl) rfl (zSt_rf hs 0 14 68 rfl) dX12_span_119 ?_
          refine zJ_iload dX12_span_122 rfl ?_
          refine zP_callVi [_, _] _ lv_X12_244 (k_X9_isJoined (d := d - 1) hl (by omega) hs hWK.2.1 (zSt_scratch hs) (by omega)) (zSt_ob hs 41 9 rfl) rfl (by omega) (Nat.le_of_ble_eq_true rfl) rfl dX12_span_124 ?_
          rw [jnd_R hWK hK.2 (by omega)]
          refine zJ_if_eq 134 dX12_span_127 (by decide) (fun c127 => ?_) (fun c127 => ?_)
          · replace c127 := zb0.mp c127
            refine zJ_iconst (v := nI 0) dX12_span_134 rfl ?_
            refine zJ_iadd dX12_span_135 ?_
            refine zJ_istore dX12_span_136 (Nat.le_of_ble_eq_true rfl) (by decide) ?_
            refine zJ_iinc1 dX12_span_138 rfl (by decide) ?_
            refine zJ_goto 50 dX12_span_141 (by decide) ?_
            have h9 := IH K (fQ_trans hf hK.1)
            rw [if_neg (show ¬ sOver S.2.1 Q < t.1 from Int32.not_lt.mpr c84), if_pos (show t.2.1 < sOver S.2.1 Q from Int32.not_le.mp c100), c127] at h9
            exact zJ_back (zle_r (zle_r (zle_r (zle_r (zle_r (zle_r (zle_r (zle_r (zle_r (zle_r (zle_r (zle_n zle_0)))))))))))) rfl h9
          · replace c127 := zb1.mp c127
            refine zJ_iconst (v := nI 1) dX12_span_130 rfl ?_
            refine zJ_goto 135 dX12_span_131 (by decide) ?_
            refine zJ_iadd dX12_span_135 ?_
            refine zJ_istore dX12_span_136 (Nat.le_of_ble_eq_true rfl) (by decide) ?_
            refine zJ_iinc1 dX12_span_138 rfl (by decide) ?_
            refine zJ_goto 50 dX12_span_141 (by decide) ?_
            have h9 := IH K (fQ_trans hf hK.1)
            rw [if_neg (show ¬ sOver S.2.1 Q < t.1 from Int32.not_lt.mpr c84), if_pos (show t.2.1 < sOver S.2.1 Q from Int32.not_le.mp c100), c127] at h9
            exact zJ_back (zle_r (zle_r (zle_r (zle_r (zle_r (zle_r (zle_r (zle_r (zle_r (zle_r (zle_r (zle_n zle_0)))))))))))) rfl h9
      · skip
        refine zJ_iload dX12_span_87 rfl ?_
        refine zJ_goto 94 dX12_span_89 (by decide) ?_
        refine zJ_istore dX12_span_94 (Nat.le_of_ble_eq_true rfl) (by decide) ?_
        refine zJ_iload dX12_span_96 rfl ?_
        refine zJ_iload dX12_span_98 rfl ?_
        refine zJ_icmp_le 108 dX12_span_100 (by decide) (fun c100 => ?_) (fun c100 => ?_)
        · skip
          refine zJ_iload dX12_span_108 rfl ?_
          refine zJ_istore dX12_span_110 (Nat.le_of_ble_eq_true rfl) (by decide) ?_
          refine zJ_iload dX12_span_112 rfl ?_
          refine zJ_aload_n dX12_span_114 rfl ?_
          refine zP_getr lf_X12_58 (zSt_ob hs 0 12 rfl) rfl (zSt_rf hs 0 8 41 rfl) dX12_span_115 ?_
          refine zJ_aload_n dX12_span_118 rfl ?_
          refine zP_getr lf_X12_101 (zSt_ob hs 0 12 rfl) rfl (zSt_rf hs 0 14 68 rfl) dX12_span_119 ?_
          refine zJ_iload dX12_span_122 rfl ?_
          refine zP_callVi [_, _] _ lv_X12_244 (k_X9_isJoined (d := d - 1) hl (by omega) hs hWK.2.1 (zSt_scratch hs) (by omega)) (zSt_ob hs 41 9 rfl) rfl (by omega) (Nat.le_of_ble_eq_true rfl) rfl dX12_span_124 ?_
          rw [jnd_R hWK hK.2 (by omega)]
          refine zJ_if_eq 134 dX12_span_127 (by decide) (fun c127 => ?_) (fun c127 => ?_)
          · replace c127 := zb0.mp c127
            refine zJ_iconst (v := nI 0) dX12_span_134 rfl ?_
            refine zJ_iadd dX12_span_135 ?_
            refine zJ_istore dX12_span_136 (Nat.le_of_ble_eq_true rfl) (by decide) ?_
            refine zJ_iinc1 dX12_span_138 rfl (by decide) ?_
            refine zJ_goto 50 dX12_span_141 (by decide) ?_
            have h9 := IH K (fQ_trans hf hK.1)
            rw [if_pos (show sOver S.2.1 Q < t.1 from Int32.not_le.mp c84), if_neg (show ¬ t.2.1 < sOver S.2.1 Q from Int32.not_lt.mpr c100), c127] at h9
            exact zJ_back (zle_r (zle_r (zle_r (zle_r (zle_r (zle_r (zle_r (zle_r (zle_r (zle_r (zle_r (zle_n zle_0)))))))))))) rfl h9
          · replace c127 := zb1.mp c127
            refine zJ_iconst (v := nI 1) dX12_span_130 rfl ?_
            refine zJ_goto 135 dX12_span_131 (by decide) ?_
            refine zJ_iadd dX12_span_135 ?_
            refine zJ_istore dX12_span_136 (Nat.le_of_ble_eq_true rfl) (by decide) ?_
            refine zJ_iinc1 dX12_span_138 rfl (by decide) ?_
            refine zJ_goto 50 dX12_span_141 (by decide) ?_
            have h9 := IH K (fQ_trans hf hK.1)
            rw [if_pos (show sOver S.2.1 Q < t.1 from Int32.not_le.mp c84), if_neg (show ¬ t.2.1 < sOver S.2.1 Q from Int32.not_lt.mpr c100), c127] at h9
            exact zJ_back (zle_r (zle_r (zle_r (zle_r (zle_r (zle_r (zle_r (zle_r (zle_r (zle_r (zle_r (zle_n zle_0)))))))))))) rfl h9
        · skip
          refine zJ_iload dX12_span_103 rfl ?_
          refine zJ_goto 110 dX12_span_105 (by decide) ?_
          refine zJ_istore dX12_span_110 (Nat.le_of_ble_eq_true rfl) (by decide) ?_
          refine zJ_iload dX12_span_112 rfl ?_
          refine zJ_aload_n dX12_span_114 rfl ?_
          refine zP_getr lf_X12_58 (zSt_ob hs 0 12 rfl) rfl (zSt_rf hs 0 8 41 rfl) dX12_span_115 ?_
          refine zJ_aload_n dX12_span_118 rfl ?_
          refine zP_getr lf_X12_101 (zSt_ob hs 0 12 rfl) rfl (zSt_rf hs 0 14 68 rfl) dX12_span_119 ?_
          refine zJ_iload dX12_span_122 rfl ?_
          refine zP_callVi [_, _] _ lv_X12_244 (k_X9_isJoined (d := d - 1) hl (by omega) hs hWK.2.1 (zSt_scratch hs) (by omega)) (zSt_ob hs 41 9 rfl) rfl (by omega) (Nat.le_of_ble_eq_true rfl) rfl dX12_span_124 ?_
          rw [jnd_R hWK hK.2 (by omega)]
          refine zJ_if_eq 134 dX12_span_127 (by decide) (fun c127 => ?_) (fun c127 => ?_)
          · replace c127 := zb0.mp c127
            refine zJ_iconst (v := nI 0) dX12_span_134 rfl ?_
            refine zJ_iadd dX12_span_135 ?_
            refine zJ_istore dX12_span_136 (Nat.le_of_ble_eq_true rfl) (by decide) ?_
            refine zJ_iinc1 dX12_span_138 rfl (by decide) ?_
            refine zJ_goto 50 dX12_span_141 (by decide) ?_
            have h9 := IH K (fQ_trans hf hK.1)
            rw [if_pos (show sOver S.2.1 Q < t.1 from Int32.not_le.mp c84), if_pos (show t.2.1 < sOver S.2.1 Q from Int32.not_le.mp c100), c127] at h9
            exact zJ_back (zle_r (zle_r (zle_r (zle_r (zle_r (zle_r (zle_r (zle_r (zle_r (zle_r (zle_r (zle_n zle_0)))))))))))) rfl h9
          · replace c127 := zb1.mp c127
            refine zJ_iconst (v := nI 1) dX12_span_130 rfl ?_
            refine zJ_goto 135 dX12_span_131 (by decide) ?_
            refine zJ_iadd dX12_span_135 ?_
            refine zJ_istore dX12_span_136 (Nat.le_of_ble_eq_true rfl) (by decide) ?_
            refine zJ_iinc1 dX12_span_138 rfl (by decide) ?_
            refine zJ_goto 50 dX12_span_141 (by decide) ?_
            have h9 := IH K (fQ_trans hf hK.1)
            rw [if_pos (show sOver S.2.1 Q < t.1 from Int32.not_le.mp c84), if_pos (show t.2.1 < sOver S.2.1 Q from Int32.not_le.mp c100), c127] at h9
            exact zJ_back (zle_r (zle_r (zle_r (zle_r (zle_r (zle_r (zle_r (zle_r (zle_r (zle_r (zle_r (zle_n zle_0)))))))))))) rfl h9
  refine zJ_aload_n dX12_span_0 rfl ?_
  refine zJ_iload dX12_span_1 rfl ?_
  refine zP_callVv [_] _ lv_X12_211 (k_needNet (d := d - 1) hl (by omega) hs (k_ntt hI hn)) (zSt_ob hs 0 12 rfl) rfl (by omega) (Nat.le_of_ble_eq_true rfl) rfl dX12_span_3 ?_
  refine zJ_aload_n dX12_span_6 rfl ?_
  refine zJ_iload_n dX12_span_7 rfl ?_
  refine zJ_iconst (v := nI 1) dX12_span_8 rfl ?_
  refine zJ_iconst (v := nI 5) dX12_span_9 rfl ?_
  refine zP_callVv [_, _, _] _ lv_X12_276 (k_needRange (d := d - 1) hl (by omega) hs ⟨nI_nlt hc1 (by omega), (nI_leI (by omega) (by omega)).mpr hc⟩) (zSt_ob hs 0 12 rfl) rfl (by omega) (Nat.le_of_ble_eq_true rfl) rfl dX12_span_10 ?_
  refine zJ_aload_n dX12_span_13 rfl ?_
  refine zJ_iload_n dX12_span_14 rfl ?_
  refine zJ_iconst (v := nI 1) dX12_span_15 rfl ?_
  refine zJ_bipush (v := nI 40) dX12_span_16 rfl ?_
  refine zP_callVv [_, _, _] _ lv_X12_276 (k_needRange (d := d - 1) hl (by omega) hs ⟨nI_nlt hm1 (by omega), (nI_leI (by omega) (by omega)).mpr hm⟩) (zSt_ob hs 0 12 rfl) rfl (by omega) (Nat.le_of_ble_eq_true rfl) rfl dX12_span_18 ?_
  refine zJ_aload_n dX12_span_21 rfl ?_
  refine zJ_iload dX12_span_22 rfl ?_
  refine zJ_iconst (v := nI 0) dX12_span_24 rfl ?_
  refine zJ_bipush (v := nI 16) dX12_span_25 rfl ?_
  refine zP_callVv [_, _, _] _ lv_X12_276 (k_needRange (d := d - 1) hl (by omega) hs ⟨nI_pos (by omega), (nI_leI (by omega) (by omega)).mpr hq⟩) (zSt_ob hs 0 12 rfl) rfl (by omega) (Nat.le_of_ble_eq_true rfl) rfl dX12_span_27 ?_
  refine zJ_aload_n dX12_span_30 rfl ?_
  refine zJ_iload dX12_span_31 rfl ?_
  refine zJ_iconst (v := nI 2) dX12_span_33 rfl ?_
  refine zP_callVv [_, _] _ lv_X12_176 (k_needWhat (d := d - 1) hl (by omega) hs (k_what hk (by omega))) (zSt_ob hs 0 12 rfl) rfl (by omega) (Nat.le_of_ble_eq_true rfl) rfl dX12_span_34 ?_
  refine zJ_bipush (v := nI 64) dX12_span_37 rfl ?_
  refine zJ_istore dX12_span_39 (Nat.le_of_ble_eq_true rfl) (by decide) ?_
  refine zJ_iconst (v := nI 0) dX12_span_41 rfl ?_
  refine zJ_istore dX12_span_42 (Nat.le_of_ble_eq_true rfl) (by decide) ?_
  refine zJ_iconst (v := nI 0) dX12_span_44 rfl ?_
  refine zJ_istore dX12_span_45 (Nat.le_of_ble_eq_true rfl) (by decide) ?_
  refine zJ_iconst (v := nI 0) dX12_span_47 rfl ?_
  refine zJ_istore dX12_span_48 (Nat.le_of_ble_eq_true rfl) (by decide) ?_
  exact loop c 0 I (by omega) fQ_rfl
def wldF (a0 a1 a2 a3 a4 a5 a6 a7 : Nat) (k : Nat) : Int32 := nI ([a0, a1, a2, a3, a4, a5, a6, a7].getD k 0)
theorem k_would (hl : l.stackTraces = false) (hd : 12 ≤ d) (hs : zSt g) {S : sT} (hI : cI I g S) (hok : okS S) {a0 a1 a2 a3 a4 a5 a6 a7 : Nat} (h0 : a0 ≤ 9999) (h1 : a1 ≤ 6) (h2 : a2 ≤ 9) (h3 : a3 ≤ 400) (h4 : 1 ≤ a4 ∧ a4 ≤ 3) (h5 : a5 ≤ 7) (h6 : a6 ≤ 7) (h7 : a7 ≤ 6) : zEi l Xi mX12_would d [.ref 0, .int (nI a0), .int (nI a1), .int (nI a2), .int (nI a3), .int (nI a4), .int (nI a5), .int (nI a6), .int (nI a7)] I g (fun v J => v = lawV S.2.1 (wldF a0 a1 a2 a3 a4 a5 a6 a7) ∧ cI J g S ∧ fC I J) := by
  refine zC_of hl rfl rfl rfl (Nat.le_of_ble_eq_true rfl) (zav_r (zSt_ob hs 0 12 rfl).1 (zav_i (zav_i (zav_i (zav_i (zav_i (zav_i (zav_i (zav_i zav_0))))))))) ?_
  obtain ⟨hW, hR, hokR, hwk, hwI, hbk⟩ := cI_ctx hI hok
  have rg : ∀ {a m : Nat}, a ≤ m → m < 100000 → ¬ nI a < nI 0 ∧ nI a ≤ nI m := fun h h' => ⟨nI_nlt (by omega) (by omega), (nI_leI (by omega) (by omega)).mpr h⟩
  obtain ⟨J, hJ⟩ : ∃ J, zup (zup (zup (zup (zup (zup (zup (zup I 22 0 (nI a0)) 22 1 (nI a1)) 22 2 (nI a2)) 22 3 (nI a3)) 22 4 (nI a4)) 22 5 (nI a5)) 22 6 (nI a6)) 22 7 (nI a7) = J := ⟨_, rfl⟩
  have hr : ∀ a, a ≠ 22 → J a = I a := fun a ha => by rw [← hJ, zup_row ha, zup_row ha, zup_row ha, zup_row ha, zup_row ha, zup_row ha, zup_row ha, zup_row ha]
  have hnm : ∀ k, k < 8 → J 22 k = wldF a0 a1 a2 a3 a4 a5 a6 a7 k := fun k hk => by
    have hk8 : k = 0 ∨ k = 1 ∨ k = 2 ∨ k = 3 ∨ k = 4 ∨ k = 5 ∨ k = 6 ∨ k = 7 := by omega
    rw [← hJ]
    rcases hk8 with rfl | rfl | rfl | rfl | rfl | rfl | rfl | rfl <;> simp [zup_same, upd, wldF]
  have hWJ : zWi J S.2.1 := zWi_of hW (fun a ha => hr a (by omega))
  refine zJ_aload_n dX12_would_0 rfl ?_
  refine zJ_iload_n dX12_would_1 rfl ?_
  refine zJ_iconst (v := nI 0) dX12_would_2 rfl ?_
  refine zJ_sipush (v := nI 9999) dX12_would_3 rfl ?_
  refine zP_callVv [_, _, _] _ lv_X12_276 (k_needRange (d := d - 1) hl (by omega) hs (rg h0 (by omega))) (zSt_ob hs 0 12 rfl) rfl (by omega) (Nat.le_of_ble_eq_true rfl) rfl dX12_would_6 ?_
  refine zJ_aload_n dX12_would_9 rfl ?_
  refine zJ_iload_n dX12_would_10 rfl ?_
  refine zJ_iconst (v := nI 0) dX12_would_11 rfl ?_
  refine zJ_bipush (v := nI 6) dX12_would_12 rfl ?_
  refine zP_callVv [_, _, _] _ lv_X12_276 (k_needRange (d := d - 1) hl (by omega) hs (rg h1 (by omega))) (zSt_ob hs 0 12 rfl) rfl (by omega) (Nat.le_of_ble_eq_true rfl) rfl dX12_would_14 ?_
  refine zJ_aload_n dX12_would_17 rfl ?_
  refine zJ_iload_n dX12_would_18 rfl ?_
  refine zJ_iconst (v := nI 0) dX12_would_19 rfl ?_
  refine zJ_bipush (v := nI 9) dX12_would_20 rfl ?_
  refine zP_callVv [_, _, _] _ lv_X12_276 (k_needRange (d := d - 1) hl (by omega) hs (rg h2 (by omega))) (zSt_ob hs 0 12 rfl) rfl (by omega) (Nat.le_of_ble_eq_true rfl) rfl dX12_would_22 ?_
  refine zJ_aload_n dX12_would_25 rfl ?_
  refine zJ_iload dX12_would_26 rfl ?_
  refine zJ_iconst (v := nI 0) dX12_would_28 rfl ?_
  refine zJ_sipush (v := nI 400) dX12_would_29 rfl ?_
  refine zP_callVv [_, _, _] _ lv_X12_276 (k_needRange (d := d - 1) hl (by omega) hs (rg h3 (by omega))) (zSt_ob hs 0 12 rfl) rfl (by omega) (Nat.le_of_ble_eq_true rfl) rfl dX12_would_32 ?_
  refine zJ_aload_n dX12_would_35 rfl ?_
  refine zJ_iload dX12_would_36 rfl ?_
  refine zJ_iconst (v := nI 1) dX12_would_38 rfl ?_
  refine zJ_iconst (v := nI 3) dX12_would_39 rfl ?_
  refine zP_callVv [_, _, _] _ lv_X12_276 (k_needRange (d := d - 1) hl (by omega) hs ⟨nI_nlt h4.1 (by omega), (nI_leI (by omega) (by omega)).mpr h4.2⟩) (zSt_ob hs 0 12 rfl) rfl (by omega) (Nat.le_of_ble_eq_true rfl) rfl dX12_would_40 ?_
  refine zJ_aload_n dX12_would_43 rfl ?_
  refine zJ_iload dX12_would_44 rfl ?_
  refine zJ_iconst (v := nI 0) dX12_would_46 rfl ?_
  refine zJ_bipush (v := nI 7) dX12_would_47 rfl ?_
  refine zP_callVv [_, _, _] _ lv_X12_276 (k_needRange (d := d - 1) hl (by omega) hs (rg h5 (by omega))) (zSt_ob hs 0 12 rfl) rfl (by omega) (Nat.le_of_ble_eq_true rfl) rfl dX12_would_49 ?_
  refine zJ_aload_n dX12_would_52 rfl ?_
  refine zJ_iload dX12_would_53 rfl ?_
  refine zJ_iconst (v := nI 0) dX12_would_55 rfl ?_
  refine zJ_bipush (v := nI 7) dX12_would_56 rfl ?_
  refine zP_callVv [_, _, _] _ lv_X12_276 (k_needRange (d := d - 1) hl (by omega) hs (rg h6 (by omega))) (zSt_ob hs 0 12 rfl) rfl (by omega) (Nat.le_of_ble_eq_true rfl) rfl dX12_would_58 ?_
  refine zJ_aload_n dX12_would_61 rfl ?_
  refine zJ_iload dX12_would_62 rfl ?_
  refine zJ_iconst (v := nI 0) dX12_would_64 rfl ?_
  refine zJ_bipush (v := nI 6) dX12_would_65 rfl ?_
  refine zP_callVv [_, _, _] _ lv_X12_276 (k_needRange (d := d - 1) hl (by omega) hs (rg h7 (by omega))) (zSt_ob hs 0 12 rfl) rfl (by omega) (Nat.le_of_ble_eq_true rfl) rfl dX12_would_67 ?_
  refine zJ_aload_n dX12_would_70 rfl ?_
  refine zP_getr lf_X12_29 (zSt_ob hs 0 12 rfl) rfl (zSt_rf hs 0 3 21 rfl) dX12_would_71 ?_
  refine zP_getr lf_X12_280 (zSt_ob hs 21 5 rfl) rfl (zSt_rf hs 21 0 22 rfl) dX12_would_74 ?_
  refine zJ_astore dX12_would_77 (Nat.le_of_ble_eq_true rfl) (by decide) ?_
  refine zJ_aload dX12_would_79 rfl ?_
  refine zJ_iconst (v := nI 0) dX12_would_81 rfl ?_
  refine zJ_iload_n dX12_would_82 rfl ?_
  refine zP_iast (zSt_ar hs 22 8 rfl) (by first | assumption | with_reducible exact vp_in_nI (by omega) (by omega) | (simp (disch := omega) only [nI_add, pk_mul, pk_sub, pk_div, pk_rem, nI_clamp]; with_reducible exact vp_in_nI (by omega) (by omega))) dX12_would_83 ?_
  refine zJ_aload dX12_would_84 rfl ?_
  refine zJ_iconst (v := nI 1) dX12_would_86 rfl ?_
  refine zJ_iload_n dX12_would_87 rfl ?_
  refine zP_iast (zSt_ar hs 22 8 rfl) (by first | assumption | with_reducible exact vp_in_nI (by omega) (by omega) | (simp (disch := omega) only [nI_add, pk_mul, pk_sub, pk_div, pk_rem, nI_clamp]; with_reducible exact vp_in_nI (by omega) (by omega))) dX12_would_88 ?_
  refine zJ_aload dX12_would_89 rfl ?_
  refine zJ_iconst (v := nI 2) dX12_would_91 rfl ?_
  refine zJ_iload_n dX12_would_92 rfl ?_
  refine zP_iast (zSt_ar hs 22 8 rfl) (by first | assumption | with_reducible exact vp_in_nI (by omega) (by omega) | (simp (disch := omega) only [nI_add, pk_mul, pk_sub, pk_div, pk_rem, nI_clamp]; with_reducible exact vp_in_nI (by omega) (by omega))) dX12_would_93 ?_
  refine zJ_aload dX12_would_94 rfl ?_
  refine zJ_iconst (v := nI 3) dX12_would_96 rfl ?_
  refine zJ_iload dX12_would_97 rfl ?_
  refine zP_iast (zSt_ar hs 22 8 rfl) (by first | assumption | with_reducible exact vp_in_nI (by omega) (by omega) | (simp (disch := omega) only [nI_add, pk_mul, pk_sub, pk_div, pk_rem, nI_clamp]; with_reducible exact vp_in_nI (by omega) (by omega))) dX12_would_99 ?_
  refine zJ_aload dX12_would_100 rfl ?_
  refine zJ_iconst (v := nI 4) dX12_would_102 rfl ?_
  refine zJ_iload dX12_would_103 rfl ?_
  refine zP_iast (zSt_ar hs 22 8 rfl) (by first | assumption | with_reducible exact vp_in_nI (by omega) (by omega) | (simp (disch := omega) only [nI_add, pk_mul, pk_sub, pk_div, pk_rem, nI_clamp]; with_reducible exact vp_in_nI (by omega) (by omega))) dX12_would_105 ?_
  refine zJ_aload dX12_would_106 rfl ?_
  refine zJ_iconst (v := nI 5) dX12_would_108 rfl ?_
  refine zJ_iload dX12_would_109 rfl ?_
  refine zP_iast (zSt_ar hs 22 8 rfl) (by first | assumption | with_reducible exact vp_in_nI (by omega) (by omega) | (simp (disch := omega) only [nI_add, pk_mul, pk_sub, pk_div, pk_rem, nI_clamp]; with_reducible exact vp_in_nI (by omega) (by omega))) dX12_would_111 ?_
  refine zJ_aload dX12_would_112 rfl ?_
  refine zJ_bipush (v := nI 6) dX12_would_114 rfl ?_
  refine zJ_iload dX12_would_116 rfl ?_
  refine zP_iast (zSt_ar hs 22 8 rfl) (by first | assumption | with_reducible exact vp_in_nI (by omega) (by omega) | (simp (disch := omega) only [nI_add, pk_mul, pk_sub, pk_div, pk_rem, nI_clamp]; with_reducible exact vp_in_nI (by omega) (by omega))) dX12_would_118 ?_
  refine zJ_aload dX12_would_119 rfl ?_
  refine zJ_bipush (v := nI 7) dX12_would_121 rfl ?_
  refine zJ_iload dX12_would_123 rfl ?_
  refine zP_iast (zSt_ar hs 22 8 rfl) (by first | assumption | with_reducible exact vp_in_nI (by omega) (by omega) | (simp (disch := omega) only [nI_add, pk_mul, pk_sub, pk_div, pk_rem, nI_clamp]; with_reducible exact vp_in_nI (by omega) (by omega))) dX12_would_125 ?_
  refine zJ_eq rfl rfl (show _ = (J, g) from by rw [← hJ]; rfl) ?_
  refine zJ_aload_n dX12_would_126 rfl ?_
  refine zP_getr lf_X12_29 (zSt_ob hs 0 12 rfl) rfl (zSt_rf hs 0 3 21 rfl) dX12_would_127 ?_
  refine zP_callVi [] _ lv_X12_283 (k_X5_priceNow (len := bln S.2.1) (d := d - 1) hl (by omega) (zSt_law hs) hWJ.2.2.2.2.2.2.2.1 hWJ.1.2.2.2.2.2.2.2.2.2.1 (fun i hi => by rw [hWJ.2.2.2.2.2.2.2.2.1 i hi]; obtain ⟨dp, -, -, h9⟩ := hWJ.1.2.2.2.2.2.2.2.2.2.2; exact (h9 i hi).1)) (zSt_ob hs 21 5 rfl) rfl (by omega) (Nat.le_of_ble_eq_true rfl) rfl dX12_would_130 ?_
  refine zJ_iret rfl dX12_would_133 ?_
  refine ⟨_, _, rfl, rfl, ?_, cQ hI ⟨fun a q1 q2 q3 _ _ _ => by rw [va_up_row q3]; exact hr a q2, fun k _ => by rw [va_up_row (by decide), hr 0 (by decide)]⟩⟩
  unfold lawV
  have hlw : lawOk (J 23) (bln S.2.1) := law_congr hWJ.1.2.2.2.2.2.2.2.2.2 (fun i hi => hWJ.2.2.2.2.2.2.2.2.1 i hi)
  rw [show (21 + 1 : Nat) = 22 from rfl, show (21 + 2 : Nat) = 23 from rfl, evalL_same (nm' := wldF a0 a1 a2 a3 a4 a5 a6 a7) (wt' := fun _ => 0) hlw hnm, evalL_cs (fun i hi => hWJ.2.2.2.2.2.2.2.2.1 i hi)]
end ZX12d
