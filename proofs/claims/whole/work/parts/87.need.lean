/-! ===== refusals in NegotiatedWires ===== -/
section ZNeed
variable {l : Launch} {Xi : zXi} {M : zM} {d kc ks pc : Nat} {Ls : List (Option Value)} {S : List Value} {I : zI} {g : zG} {post : zR → zH → Prop}
def zLX (own : String) (ik ic : Nat) (cls : String) (ix : Nat) (rx : ByteArray) : Prop := Bundle.fit cls = true ∧ Cond.classLink own ik cls ∈ zGT ∧ Cond.initialized cls ∈ zGT ∧ (∀ w ∈ (vx_atX own ic cls ix rx znm).filter goodWord, w ∈ zGT) ∧ (∀ w ∈ (vx_atX own ic cls ix rx znm).filter (fun w => !goodWord w), w ∈ Cond.castable cls cls :: zdecl.map Cond.declares) ∧ (∀ w ∈ Cond.classLink own ik cls :: Cond.initialized cls :: vx_atX own ic cls ix rx znm, vx_ot w = true) ∧ (cls = "java/lang/IllegalArgumentException" ∨ cls = "java/util/NoSuchElementException") ∧ decode rx 0 = .ok (.aload_n 0, 1) ∧ decode rx 1 = .ok (.aload_n 1, 1) ∧ decode rx 2 = .ok (.invokespecial ix, 3) ∧ decode rx 5 = .ok (.return_, 1)
theorem zLX_of {own : String} {ik ic ix : Nat} {rx : ByteArray} {cls : String} (h1 : Bundle.fit cls = true) (h2 : Cond.classLink own ik cls ∈ zGT) (h3 : Cond.initialized cls ∈ zGT) (h4 : ((vx_atX own ic cls ix rx znm).filter goodWord).all (fun w => decide (w ∈ lw_tbl)) = true) (h5 : ((vx_atX own ic cls ix rx znm).filter (fun w => !goodWord w)).all (fun w => decide (w ∈ Cond.castable cls cls :: zdecl.map Cond.declares)) = true) (h6 : (Cond.classLink own ik cls :: Cond.initialized cls :: vx_atX own ic cls ix rx znm).all vx_ot = true) (h7 : cls = "java/lang/IllegalArgumentException" ∨ cls = "java/util/NoSuchElementException") (h8 : decode rx 0 = .ok (.aload_n 0, 1) ∧ decode rx 1 = .ok (.aload_n 1, 1) ∧ decode rx 2 = .ok (.invokespecial ix, 3) ∧ decode rx 5 = .ok (.return_, 1)) : zLX own ik ic cls ix rx :=
  ⟨h1, h2, h3, fun w hw => List.mem_filter.mpr ⟨of_decide_eq_true (List.all_eq_true.mp h4 w hw), (List.mem_filter.mp hw).2⟩, fun w hw => of_decide_eq_true (List.all_eq_true.mp h5 w hw), fun w hw => List.all_eq_true.mp h6 w hw, h7, h8⟩
theorem zin_dec {w : Cond} (h : decide (w ∈ lw_tbl) = true) (hg : goodWord w = true) : w ∈ zGT := List.mem_filter.mpr ⟨of_decide_eq_true h, hg⟩
theorem lx_IAE : zLX RX12 367 371 "java/lang/IllegalArgumentException" 7 Bundle.six := zLX_of (by decide +kernel) (zin_dec (by decide +kernel) (by decide +kernel)) (zin_dec (by decide +kernel) (by decide +kernel)) (by decide +kernel) (by decide +kernel) (by decide +kernel) (Or.inl rfl) ⟨by decide +kernel, by decide +kernel, by decide +kernel, by decide +kernel⟩
theorem lx_NSE : zLX RX12 378 382 "java/util/NoSuchElementException" 13 prog_32_method_4_code := zLX_of (by decide +kernel) (zin_dec (by decide +kernel) (by decide +kernel)) (zin_dec (by decide +kernel) (by decide +kernel)) (by decide +kernel) (by decide +kernel) (by decide +kernel) (Or.inr rfl) ⟨by decide +kernel, by decide +kernel, by decide +kernel, by decide +kernel⟩
theorem zJ_throwX {h : zH} {ik is ic ix num : Nat} {rx : ByteArray} {cls tx : String} (lk : zLX M.1 ik ic cls ix rx) (hq : (M.1, is, tx, num) ∈ zstr) (hst : (S.map fun v => v.category).sum ≤ 8) (hdp : 6 ≤ d) (hM : M.2.2.2.2.2 = []) (d0 : decode M.2.2.1 pc = .ok (.new ik, 3)) (d3 : decode M.2.2.1 (pc + 3) = .ok (.dup, 1)) (d4 : decode M.2.2.1 (pc + 4) = .ok (.ldc_w is, 3)) (d7 : decode M.2.2.1 (pc + 7) = .ok (.invokespecial ic, 3)) (d10 : decode M.2.2.1 (pc + 10) = .ok (.athrow, 1))
    (hp : post (.inr cls) h) : zJ l Xi M d (kc + 1) (ks + 6) pc Ls S h post := by
  intro p e R s m args below meth c H locs cells slots ls D cT ao ad A n0 ad0 E hc hs1 hS hP hn he hl hv
  obtain ⟨t1, t2, t3, t4, t5, t6, t7, r0, r1, r2, r5⟩ := lk
  have hts := E.2.2.2.2.2.2.1
  have hO := E.2.2.2.2.2.2.2.2.2.2.2.1
  have hfr := E.2.2.2.2.2.2.2.2.1
  have hlo := E.2.2.2.2.2.2.2.2.2.1
  have hcs : ∀ w ∈ Cond.castable cls cls :: zdecl.map Cond.declares, w.before args s = true := by
    intro w hw
    rcases List.mem_cons.mp hw with rfl | hw
    · rcases t7 with rfl | rfl
      · exact va_Nw.use rfl hO.2.2.2.2.2.2.2.2.2.2.2.2.2.1
      · exact va_Nw.use rfl hO.2.2.2.2.2.2.2.2.2.2.2.2.2.2.1
    · obtain ⟨q, hq, rfl⟩ := List.mem_map.mp hw
      exact va_Nw.use rfl (hO.2.2.2.2.2.2.2.2.2.2.2.2.2.2.2.2 q hq)
  refine zx_throw (nms := znm) (A := A) (rest := S.map (zv ad)) E.1 E.2.1 E.2.2.2.2.2.2.2.2.2.2.2.2.1 r0 r1 r2 r5 E.2.2.2.2.2.1 t1 (by decide +kernel) (hts _ t2) (hts _ t3) (hO.2.2.2.1 _ hq) (vx_hat (B := Cond.castable cls cls :: zdecl.map Cond.declares) (fun w hw => hts w (t4 w hw)) t5 hcs) t6 hO.2.2.2.2.2.1 hO.2.2.2.2.2.2.1 hS (by rw [E.2.2.1]; exact hl.1.1) d0 d3 d4 d7 d10 (by rw [E.2.2.2.2.2.2.2.1, hM]; intro x hx; cases hx) (by show 2 + 3 < R.frames; omega) (by rw [zS_cat]; show _ + (13 * (2 + 1) + 43) ≤ R.locals; omega) (by omega) (by omega) E.2.2.2.2.1 ?_ hS.2.2 (by omega) (by omega)
  intro t hvm hsz hk
  refine ⟨⟨h, ad, hp, hn, he, va_K.moved hvm hP.1, hP.2.1.kept (fun k q hkq => hk q.1 ((hP.2.1 k q hkq).lt)), hP.2.2⟩, Nat.le_trans hS.1 hsz, fun q h1 h2 => ?_⟩
  rw [hk q (Nat.lt_of_lt_of_le h1 hS.1)]
  exact hS.2.1 q h1 h2
/-- a method that refuses -/
def zT (l : Launch) (Xi : zXi) (M : zM) (d kc ks : Nat) (av : List Value) (I : zI) (g : zG) (E : String) (J : zI) : Prop := zC l Xi M d kc ks av (I, g) (fun r' h' => r' = .inr E ∧ h' = (J, g))
theorem zP_thrV {M' : zM} {idx ci b d' kc' ks' : Nat} {E : String} {J : zI} (As rest : List Value) (lk : zLV M.1 idx M' ci As.length) (hC : zT l Xi M' d' kc' ks' (.ref b :: As) I g E J) (ho : zOb g b ci) (hst : S = As.reverse ++ .ref b :: rest) (hd1 : d' + 1 ≤ d) (hcat : (rest.map fun v => v.category).sum ≤ 8) (hM : M.2.2.2.2.2 = []) (hk1 : kc' ≤ kc) (hk2 : ks' ≤ ks) (hd : decode M.2.2.1 pc = .ok (.invokevirtual idx, 3))
    (hp : post (.inr E) (J, g)) : zJ l Xi M d kc ks pc Ls S (I, g) post :=
  zJ_wid (kc := 0 + kc') (ks := 0 + ks') (by omega) (by omega) (zJ_callV (h := (I, g)) (kc := 0) (ks := 0) As rest lk hC ho.1 ho.2 hst hd1 hcat hM hd (fun E' h1 q _ => by obtain ⟨q1, q2⟩ := q; cases q1; rw [q2]; exact hp) (fun r' h1 q _ => by cases q.1))
def wrU (I : zI) : zI := zup I 0 17 (I 0 17 + 1)
def nsU (I : zI) : zI := zup I 0 16 (I 0 16 + 1)
theorem k_needWhat (hl : l.stackTraces = false) (hd : 1 ≤ d) (hs : zSt g) {x y : Int32} (h : ¬ x < 0 ∧ x ≤ y) : zD l Xi mX12_needWhat d [.ref 0, .int x, .int y] I g none I := by
  refine zC_of hl rfl rfl rfl (Nat.le_of_ble_eq_true rfl) (zav_r (zSt_ob hs 0 12 rfl).1 (zav_i (zav_i zav_0))) ?_
  refine zJ_iload_n dX12_needWhat_0 rfl ?_
  refine zJ_if_lt 9 dX12_needWhat_1 (by decide) (fun c1 => absurd c1 h.1) (fun _ => ?_)
  refine zJ_iload_n dX12_needWhat_4 rfl ?_
  refine zJ_iload_n dX12_needWhat_5 rfl ?_
  refine zJ_icmp_le 30 dX12_needWhat_6 (by decide) (fun _ => ?_) (fun c6 => absurd h.2 c6)
  refine zJ_vret rfl dX12_needWhat_30 ?_
  exact ⟨rfl, rfl⟩
theorem t_needWhat (hl : l.stackTraces = false) (hd : 6 ≤ d) (hs : zSt g) {x y : Int32} (hb : ¬ (¬ x < 0 ∧ x ≤ y)) : zT l Xi mX12_needWhat d 1 6 [.ref 0, .int x, .int y] I g "java/lang/IllegalArgumentException" (wrU I) := by
  refine zC_of hl rfl rfl rfl (Nat.le_of_ble_eq_true rfl) (zav_r (zSt_ob hs 0 12 rfl).1 (zav_i (zav_i zav_0))) ?_
  refine zJ_iload_n dX12_needWhat_0 rfl ?_
  refine zJ_if_lt 9 dX12_needWhat_1 (by decide) (fun c1 => ?_) (fun c1 => ?_)
  · skip
    refine zJ_aload_n dX12_needWhat_9 rfl ?_
    refine zJ_dup dX12_needWhat_10 rfl ?_
    refine zP_geti lf_X12_356 (zSt_ob hs 0 12 rfl) rfl dX12_needWhat_11 ?_
    refine zJ_iconst (v := nI 1) dX12_needWhat_14 rfl ?_
    refine zJ_iadd dX12_needWhat_15 ?_
    refine zP_puti lf_X12_356 (zSt_ob hs 0 12 rfl) rfl dX12_needWhat_16 ?_
    refine zJ_throwX (kc := 0) (ks := 0) lx_IAE (num := 32) (tx := "no such what") (List.mem_of_getElem? (i := 25) rfl) (Nat.le_of_ble_eq_true rfl) (by omega) rfl dX12_needWhat_19 dX12_needWhat_22 dX12_needWhat_23 dX12_needWhat_26 dX12_needWhat_29 ?_
    exact ⟨rfl, rfl⟩
  · skip
    refine zJ_iload_n dX12_needWhat_4 rfl ?_
    refine zJ_iload_n dX12_needWhat_5 rfl ?_
    refine zJ_icmp_le 30 dX12_needWhat_6 (by decide) (fun c6 => ?_) (fun c6 => ?_)
    · skip
      refine zJ_vret rfl dX12_needWhat_30 ?_
      exfalso; exact hb ⟨c1, c6⟩
    · skip
      refine zJ_aload_n dX12_needWhat_9 rfl ?_
      refine zJ_dup dX12_needWhat_10 rfl ?_
      refine zP_geti lf_X12_356 (zSt_ob hs 0 12 rfl) rfl dX12_needWhat_11 ?_
      refine zJ_iconst (v := nI 1) dX12_needWhat_14 rfl ?_
      refine zJ_iadd dX12_needWhat_15 ?_
      refine zP_puti lf_X12_356 (zSt_ob hs 0 12 rfl) rfl dX12_needWhat_16 ?_
      refine zJ_throwX (kc := 0) (ks := 0) lx_IAE (num := 32) (tx := "no such what") (List.mem_of_getElem? (i := 25) rfl) (Nat.le_of_ble_eq_true rfl) (by omega) rfl dX12_needWhat_19 dX12_needWhat_22 dX12_needWhat_23 dX12_needWhat_26 dX12_needWhat_29 ?_
      exact ⟨rfl, rfl⟩
theorem k_needRange (hl : l.stackTraces = false) (hd : 1 ≤ d) (hs : zSt g) {x y z : Int32} (h : ¬ x < y ∧ x ≤ z) : zD l Xi mX12_needRange d [.ref 0, .int x, .int y, .int z] I g none I := by
  refine zC_of hl rfl rfl rfl (Nat.le_of_ble_eq_true rfl) (zav_r (zSt_ob hs 0 12 rfl).1 (zav_i (zav_i (zav_i zav_0)))) ?_
  refine zJ_iload_n dX12_needRange_0 rfl ?_
  refine zJ_iload_n dX12_needRange_1 rfl ?_
  refine zJ_icmp_lt 10 dX12_needRange_2 (by decide) (fun c2 => absurd c2 h.1) (fun _ => ?_)
  refine zJ_iload_n dX12_needRange_5 rfl ?_
  refine zJ_iload_n dX12_needRange_6 rfl ?_
  refine zJ_icmp_le 31 dX12_needRange_7 (by decide) (fun _ => ?_) (fun c7 => absurd h.2 c7)
  refine zJ_vret rfl dX12_needRange_31 ?_
  exact ⟨rfl, rfl⟩
theorem t_needRange (hl : l.stackTraces = false) (hd : 6 ≤ d) (hs : zSt g) {x y z : Int32} (hb : ¬ (¬ x < y ∧ x ≤ z)) : zT l Xi mX12_needRange d 1 6 [.ref 0, .int x, .int y, .int z] I g "java/lang/IllegalArgumentException" (wrU I) := by
  refine zC_of hl rfl rfl rfl (Nat.le_of_ble_eq_true rfl) (zav_r (zSt_ob hs 0 12 rfl).1 (zav_i (zav_i (zav_i zav_0)))) ?_
  refine zJ_iload_n dX12_needRange_0 rfl ?_
  refine zJ_iload_n dX12_needRange_1 rfl ?_
  refine zJ_icmp_lt 10 dX12_needRange_2 (by decide) (fun c2 => ?_) (fun c2 => ?_)
  · skip
    refine zJ_aload_n dX12_needRange_10 rfl ?_
    refine zJ_dup dX12_needRange_11 rfl ?_
    refine zP_geti lf_X12_356 (zSt_ob hs 0 12 rfl) rfl dX12_needRange_12 ?_
    refine zJ_iconst (v := nI 1) dX12_needRange_15 rfl ?_
    refine zJ_iadd dX12_needRange_16 ?_
    refine zP_puti lf_X12_356 (zSt_ob hs 0 12 rfl) rfl dX12_needRange_17 ?_
    refine zJ_throwX (kc := 0) (ks := 0) lx_IAE (num := 31) (tx := "a number out of its range") (List.mem_of_getElem? (i := 24) rfl) (Nat.le_of_ble_eq_true rfl) (by omega) rfl dX12_needRange_20 dX12_needRange_23 dX12_needRange_24 dX12_needRange_27 dX12_needRange_30 ?_
    exact ⟨rfl, rfl⟩
  · skip
    refine zJ_iload_n dX12_needRange_5 rfl ?_
    refine zJ_iload_n dX12_needRange_6 rfl ?_
    refine zJ_icmp_le 31 dX12_needRange_7 (by decide) (fun c7 => ?_) (fun c7 => ?_)
    · skip
      refine zJ_vret rfl dX12_needRange_31 ?_
      exfalso; exact hb ⟨c2, c7⟩
    · skip
      refine zJ_aload_n dX12_needRange_10 rfl ?_
      refine zJ_dup dX12_needRange_11 rfl ?_
      refine zP_geti lf_X12_356 (zSt_ob hs 0 12 rfl) rfl dX12_needRange_12 ?_
      refine zJ_iconst (v := nI 1) dX12_needRange_15 rfl ?_
      refine zJ_iadd dX12_needRange_16 ?_
      refine zP_puti lf_X12_356 (zSt_ob hs 0 12 rfl) rfl dX12_needRange_17 ?_
      refine zJ_throwX (kc := 0) (ks := 0) lx_IAE (num := 31) (tx := "a number out of its range") (List.mem_of_getElem? (i := 24) rfl) (Nat.le_of_ble_eq_true rfl) (by omega) rfl dX12_needRange_20 dX12_needRange_23 dX12_needRange_24 dX12_needRange_27 dX12_needRange_30 ?_
      exact ⟨rfl, rfl⟩
theorem k_needNet (hl : l.stackTraces = false) (hd : 1 ≤ d) (hs : zSt g) {x : Int32} (h : ¬ x < 0 ∧ x < I 3 2) : zD l Xi mX12_needNet d [.ref 0, .int x] I g none I := by
  refine zC_of hl rfl rfl rfl (Nat.le_of_ble_eq_true rfl) (zav_r (zSt_ob hs 0 12 rfl).1 (zav_i zav_0)) ?_
  refine zJ_iload_n dX12_needNet_0 rfl ?_
  refine zJ_if_lt 15 dX12_needNet_1 (by decide) (fun c1 => absurd c1 h.1) (fun _ => ?_)
  refine zJ_iload_n dX12_needNet_4 rfl ?_
  refine zJ_aload_n dX12_needNet_5 rfl ?_
  refine zP_getr lf_X12_19 (zSt_ob hs 0 12 rfl) rfl (zSt_rf hs 0 1 3 rfl) dX12_needNet_6 ?_
  refine zP_geti lf_X12_136 (zSt_ob hs 3 0 rfl) rfl dX12_needNet_9 ?_
  refine zJ_icmp_lt 36 dX12_needNet_12 (by decide) (fun _ => ?_) (fun c12 => absurd h.2 c12)
  refine zJ_vret rfl dX12_needNet_36 ?_
  exact ⟨rfl, rfl⟩
theorem t_needNet (hl : l.stackTraces = false) (hd : 6 ≤ d) (hs : zSt g) {x : Int32} (hb : ¬ (¬ x < 0 ∧ x < I 3 2)) : zT l Xi mX12_needNet d 1 6 [.ref 0, .int x] I g "java/util/NoSuchElementException" (nsU I) := by
  refine zC_of hl rfl rfl rfl (Nat.le_of_ble_eq_true rfl) (zav_r (zSt_ob hs 0 12 rfl).1 (zav_i zav_0)) ?_
  refine zJ_iload_n dX12_needNet_0 rfl ?_
  refine zJ_if_lt 15 dX12_needNet_1 (by decide) (fun c1 => ?_) (fun c1 => ?_)
  · skip
    refine zJ_aload_n dX12_needNet_15 rfl ?_
    refine zJ_dup dX12_needNet_16 rfl ?_
    refine zP_geti lf_X12_353 (zSt_ob hs 0 12 rfl) rfl dX12_needNet_17 ?_
    refine zJ_iconst (v := nI 1) dX12_needNet_20 rfl ?_
    refine zJ_iadd dX12_needNet_21 ?_
    refine zP_puti lf_X12_353 (zSt_ob hs 0 12 rfl) rfl dX12_needNet_22 ?_
    refine zJ_throwX (kc := 0) (ks := 0) lx_NSE (num := 33) (tx := "no such net") (List.mem_of_getElem? (i := 26) rfl) (Nat.le_of_ble_eq_true rfl) (by omega) rfl dX12_needNet_25 dX12_needNet_28 dX12_needNet_29 dX12_needNet_32 dX12_needNet_35 ?_
    exact ⟨rfl, rfl⟩
  · skip
    refine zJ_iload_n dX12_needNet_4 rfl ?_
    refine zJ_aload_n dX12_needNet_5 rfl ?_
    refine zP_getr lf_X12_19 (zSt_ob hs 0 12 rfl) rfl (zSt_rf hs 0 1 3 rfl) dX12_needNet_6 ?_
    refine zP_geti lf_X12_136 (zSt_ob hs 3 0 rfl) rfl dX12_needNet_9 ?_
    refine zJ_icmp_lt 36 dX12_needNet_12 (by decide) (fun c12 => ?_) (fun c12 => ?_)
    · skip
      refine zJ_vret rfl dX12_needNet_36 ?_
      exfalso; exact hb ⟨c1, c12⟩
    · skip
      refine zJ_aload_n dX12_needNet_15 rfl ?_
      refine zJ_dup dX12_needNet_16 rfl ?_
      refine zP_geti lf_X12_353 (zSt_ob hs 0 12 rfl) rfl dX12_needNet_17 ?_
      refine zJ_iconst (v := nI 1) dX12_needNet_20 rfl ?_
      refine zJ_iadd dX12_needNet_21 ?_
      refine zP_puti lf_X12_353 (zSt_ob hs 0 12 rfl) rfl dX12_needNet_22 ?_
      refine zJ_throwX (kc := 0) (ks := 0) lx_NSE (num := 33) (tx := "no such net") (List.mem_of_getElem? (i := 26) rfl) (Nat.le_of_ble_eq_true rfl) (by omega) rfl dX12_needNet_25 dX12_needNet_28 dX12_needNet_29 dX12_needNet_32 dX12_needNet_35 ?_
      exact ⟨rfl, rfl⟩
theorem k_needRow (hl : l.stackTraces = false) (hd : 1 ≤ d) (hs : zSt g) {x : Int32} (h : ¬ x < 0 ∧ x < I 3 1) : zD l Xi mX12_needRow d [.ref 0, .int x] I g none I := by
  refine zC_of hl rfl rfl rfl (Nat.le_of_ble_eq_true rfl) (zav_r (zSt_ob hs 0 12 rfl).1 (zav_i zav_0)) ?_
  refine zJ_iload_n dX12_needRow_0 rfl ?_
  refine zJ_if_lt 15 dX12_needRow_1 (by decide) (fun c1 => absurd c1 h.1) (fun _ => ?_)
  refine zJ_iload_n dX12_needRow_4 rfl ?_
  refine zJ_aload_n dX12_needRow_5 rfl ?_
  refine zP_getr lf_X12_19 (zSt_ob hs 0 12 rfl) rfl (zSt_rf hs 0 1 3 rfl) dX12_needRow_6 ?_
  refine zP_geti lf_X12_182 (zSt_ob hs 3 0 rfl) rfl dX12_needRow_9 ?_
  refine zJ_icmp_lt 36 dX12_needRow_12 (by decide) (fun _ => ?_) (fun c12 => absurd h.2 c12)
  refine zJ_vret rfl dX12_needRow_36 ?_
  exact ⟨rfl, rfl⟩
theorem t_needRow (hl : l.stackTraces = false) (hd : 6 ≤ d) (hs : zSt g) {x : Int32} (hb : ¬ (¬ x < 0 ∧ x < I 3 1)) : zT l Xi mX12_needRow d 1 6 [.ref 0, .int x] I g "java/util/NoSuchElementException" (nsU I) := by
  refine zC_of hl rfl rfl rfl (Nat.le_of_ble_eq_true rfl) (zav_r (zSt_ob hs 0 12 rfl).1 (zav_i zav_0)) ?_
  refine zJ_iload_n dX12_needRow_0 rfl ?_
  refine zJ_if_lt 15 dX12_needRow_1 (by decide) (fun c1 => ?_) (fun c1 => ?_)
  · skip
    refine zJ_aload_n dX12_needRow_15 rfl ?_
    refine zJ_dup dX12_needRow_16 rfl ?_
    refine zP_geti lf_X12_353 (zSt_ob hs 0 12 rfl) rfl dX12_needRow_17 ?_
    refine zJ_iconst (v := nI 1) dX12_needRow_20 rfl ?_
    refine zJ_iadd dX12_needRow_21 ?_
    refine zP_puti lf_X12_353 (zSt_ob hs 0 12 rfl) rfl dX12_needRow_22 ?_
    refine zJ_throwX (kc := 0) (ks := 0) lx_NSE (num := 34) (tx := "no such row") (List.mem_of_getElem? (i := 27) rfl) (Nat.le_of_ble_eq_true rfl) (by omega) rfl dX12_needRow_25 dX12_needRow_28 dX12_needRow_29 dX12_needRow_32 dX12_needRow_35 ?_
    exact ⟨rfl, rfl⟩
  · skip
    refine zJ_iload_n dX12_needRow_4 rfl ?_
    refine zJ_aload_n dX12_needRow_5 rfl ?_
    refine zP_getr lf_X12_19 (zSt_ob hs 0 12 rfl) rfl (zSt_rf hs 0 1 3 rfl) dX12_needRow_6 ?_
    refine zP_geti lf_X12_182 (zSt_ob hs 3 0 rfl) rfl dX12_needRow_9 ?_
    refine zJ_icmp_lt 36 dX12_needRow_12 (by decide) (fun c12 => ?_) (fun c12 => ?_)
    · skip
      refine zJ_vret rfl dX12_needRow_36 ?_
      exfalso; exact hb ⟨c1, c12⟩
    · skip
      refine zJ_aload_n dX12_needRow_15 rfl ?_
      refine zJ_dup dX12_needRow_16 rfl ?_
      refine zP_geti lf_X12_353 (zSt_ob hs 0 12 rfl) rfl dX12_needRow_17 ?_
      refine zJ_iconst (v := nI 1) dX12_needRow_20 rfl ?_
      refine zJ_iadd dX12_needRow_21 ?_
      refine zP_puti lf_X12_353 (zSt_ob hs 0 12 rfl) rfl dX12_needRow_22 ?_
      refine zJ_throwX (kc := 0) (ks := 0) lx_NSE (num := 34) (tx := "no such row") (List.mem_of_getElem? (i := 27) rfl) (Nat.le_of_ble_eq_true rfl) (by omega) rfl dX12_needRow_25 dX12_needRow_28 dX12_needRow_29 dX12_needRow_32 dX12_needRow_35 ?_
      exact ⟨rfl, rfl⟩
theorem k_needPlace (hl : l.stackTraces = false) (hd : 1 ≤ d) (hs : zSt g) {x y : Int32} (h : ¬ x < 0 ∧ ¬ I 3 0 ≤ x ∧ ¬ y < 0 ∧ y < I 3 1) : zD l Xi mX12_needPlace d [.ref 0, .int x, .int y] I g none I := by
  refine zC_of hl rfl rfl rfl (Nat.le_of_ble_eq_true rfl) (zav_r (zSt_ob hs 0 12 rfl).1 (zav_i (zav_i zav_0))) ?_
  refine zJ_iload_n dX12_needPlace_0 rfl ?_
  refine zJ_if_lt 30 dX12_needPlace_1 (by decide) (fun c1 => absurd c1 h.1) (fun _ => ?_)
  refine zJ_iload_n dX12_needPlace_4 rfl ?_
  refine zJ_aload_n dX12_needPlace_5 rfl ?_
  refine zP_getr lf_X12_19 (zSt_ob hs 0 12 rfl) rfl (zSt_rf hs 0 1 3 rfl) dX12_needPlace_6 ?_
  refine zP_geti lf_X12_179 (zSt_ob hs 3 0 rfl) rfl dX12_needPlace_9 ?_
  refine zJ_icmp_ge 30 dX12_needPlace_12 (by decide) (fun c12 => absurd c12 h.2.1) (fun _ => ?_)
  refine zJ_iload_n dX12_needPlace_15 rfl ?_
  refine zJ_if_lt 30 dX12_needPlace_16 (by decide) (fun c16 => absurd c16 h.2.2.1) (fun _ => ?_)
  refine zJ_iload_n dX12_needPlace_19 rfl ?_
  refine zJ_aload_n dX12_needPlace_20 rfl ?_
  refine zP_getr lf_X12_19 (zSt_ob hs 0 12 rfl) rfl (zSt_rf hs 0 1 3 rfl) dX12_needPlace_21 ?_
  refine zP_geti lf_X12_182 (zSt_ob hs 3 0 rfl) rfl dX12_needPlace_24 ?_
  refine zJ_icmp_lt 51 dX12_needPlace_27 (by decide) (fun _ => ?_) (fun c27 => absurd h.2.2.2 c27)
  refine zJ_vret rfl dX12_needPlace_51 ?_
  exact ⟨rfl, rfl⟩
theorem t_needPlace (hl : l.stackTraces = false) (hd : 6 ≤ d) (hs : zSt g) {x y : Int32} (hb : ¬ (¬ x < 0 ∧ ¬ I 3 0 ≤ x ∧ ¬ y < 0 ∧ y < I 3 1)) : zT l Xi mX12_needPlace d 1 6 [.ref 0, .int x, .int y] I g "java/util/NoSuchElementException" (nsU I) := by
  refine zC_of hl rfl rfl rfl (Nat.le_of_ble_eq_true rfl) (zav_r (zSt_ob hs 0 12 rfl).1 (zav_i (zav_i zav_0))) ?_
  refine zJ_iload_n dX12_needPlace_0 rfl ?_
  refine zJ_if_lt 30 dX12_needPlace_1 (by decide) (fun c1 => ?_) (fun c1 => ?_)
  · skip
    refine zJ_aload_n dX12_needPlace_30 rfl ?_
    refine zJ_dup dX12_needPlace_31 rfl ?_
    refine zP_geti lf_X12_353 (zSt_ob hs 0 12 rfl) rfl dX12_needPlace_32 ?_
    refine zJ_iconst (v := nI 1) dX12_needPlace_35 rfl ?_
    refine zJ_iadd dX12_needPlace_36 ?_
    refine zP_puti lf_X12_353 (zSt_ob hs 0 12 rfl) rfl dX12_needPlace_37 ?_
    refine zJ_throwX (kc := 0) (ks := 0) lx_NSE (num := 35) (tx := "no such place") (List.mem_of_getElem? (i := 28) rfl) (Nat.le_of_ble_eq_true rfl) (by omega) rfl dX12_needPlace_40 dX12_needPlace_43 dX12_needPlace_44 dX12_needPlace_47 dX12_needPlace_50 ?_
    exact ⟨rfl, rfl⟩
  · skip
    refine zJ_iload_n dX12_needPlace_4 rfl ?_
    refine zJ_aload_n dX12_needPlace_5 rfl ?_
    refine zP_getr lf_X12_19 (zSt_ob hs 0 12 rfl) rfl (zSt_rf hs 0 1 3 rfl) dX12_needPlace_6 ?_
    refine zP_geti lf_X12_179 (zSt_ob hs 3 0 rfl) rfl dX12_needPlace_9 ?_
    refine zJ_icmp_ge 30 dX12_needPlace_12 (by decide) (fun c12 => ?_) (fun c12 => ?_)
    · skip
      refine zJ_aload_n dX12_needPlace_30 rfl ?_
      refine zJ_dup dX12_needPlace_31 rfl ?_
      refine zP_geti lf_X12_353 (zSt_ob hs 0 12 rfl) rfl dX12_needPlace_32 ?_
      refine zJ_iconst (v := nI 1) dX12_needPlace_35 rfl ?_
      refine zJ_iadd dX12_needPlace_36 ?_
      refine zP_puti lf_X12_353 (zSt_ob hs 0 12 rfl) rfl dX12_needPlace_37 ?_
      refine zJ_throwX (kc := 0) (ks := 0) lx_NSE (num := 35) (tx := "no such place") (List.mem_of_getElem? (i := 28) rfl) (Nat.le_of_ble_eq_true rfl) (by omega) rfl dX12_needPlace_40 dX12_needPlace_43 dX12_needPlace_44 dX12_needPlace_47 dX12_needPlace_50 ?_
      exact ⟨rfl, rfl⟩
    · skip
      refine zJ_iload_n dX12_needPlace_15 rfl ?_
      refine zJ_if_lt 30 dX12_needPlace_16 (by decide) (fun c16 => ?_) (fun c16 => ?_)
      · skip
        refine zJ_aload_n dX12_needPlace_30 rfl ?_
        refine zJ_dup dX12_needPlace_31 rfl ?_
        refine zP_geti lf_X12_353 (zSt_ob hs 0 12 rfl) rfl dX12_needPlace_32 ?_
        refine zJ_iconst (v := nI 1) dX12_needPlace_35 rfl ?_
        refine zJ_iadd dX12_needPlace_36 ?_
        refine zP_puti lf_X12_353 (zSt_ob hs 0 12 rfl) rfl dX12_needPlace_37 ?_
        refine zJ_throwX (kc := 0) (ks := 0) lx_NSE (num := 35) (tx := "no such place") (List.mem_of_getElem? (i := 28) rfl) (Nat.le_of_ble_eq_true rfl) (by omega) rfl dX12_needPlace_40 dX12_needPlace_43 dX12_needPlace_44 dX12_needPlace_47 dX12_needPlace_50 ?_
        exact ⟨rfl, rfl⟩
      · skip
        refine zJ_iload_n dX12_needPlace_19 rfl ?_
        refine zJ_aload_n dX12_needPlace_20 rfl ?_
        refine zP_getr lf_X12_19 (zSt_ob hs 0 12 rfl) rfl (zSt_rf hs 0 1 3 rfl) dX12_needPlace_21 ?_
        refine zP_geti lf_X12_182 (zSt_ob hs 3 0 rfl) rfl dX12_needPlace_24 ?_
        refine zJ_icmp_lt 51 dX12_needPlace_27 (by decide) (fun c27 => ?_) (fun c27 => ?_)
        · skip
          refine zJ_vret rfl dX12_needPlace_51 ?_
          exfalso; exact hb ⟨c1, c12, c16, c27⟩
        · skip
          refine zJ_aload_n dX12_needPlace_30 rfl ?_
          refine zJ_dup dX12_needPlace_31 rfl ?_
          refine zP_geti lf_X12_353 (zSt_ob hs 0 12 rfl) rfl dX12_needPlace_32 ?_
          refine zJ_iconst (v := nI 1) dX12_needPlace_35 rfl ?_
          refine zJ_iadd dX12_needPlace_36 ?_
          refine zP_puti lf_X12_353 (zSt_ob hs 0 12 rfl) rfl dX12_needPlace_37 ?_
          refine zJ_throwX (kc := 0) (ks := 0) lx_NSE (num := 35) (tx := "no such place") (List.mem_of_getElem? (i := 28) rfl) (Nat.le_of_ble_eq_true rfl) (by omega) rfl dX12_needPlace_40 dX12_needPlace_43 dX12_needPlace_44 dX12_needPlace_47 dX12_needPlace_50 ?_
          exact ⟨rfl, rfl⟩
theorem k_needLength (hl : l.stackTraces = false) (hd : 1 ≤ d) (hs : zSt g) {x y : Int32} (h : ¬ x < 0 ∧ ¬ y < x ∧ x ≤ I 1 1) : zD l Xi mX12_needLength d [.ref 0, .int x, .int y] I g none I := by
  refine zC_of hl rfl rfl rfl (Nat.le_of_ble_eq_true rfl) (zav_r (zSt_ob hs 0 12 rfl).1 (zav_i (zav_i zav_0))) ?_
  refine zJ_iload_n dX12_needLength_0 rfl ?_
  refine zJ_if_lt 20 dX12_needLength_1 (by decide) (fun c1 => absurd c1 h.1) (fun _ => ?_)
  refine zJ_iload_n dX12_needLength_4 rfl ?_
  refine zJ_iload_n dX12_needLength_5 rfl ?_
  refine zJ_icmp_gt 20 dX12_needLength_6 (by decide) (fun c6 => absurd c6 h.2.1) (fun _ => ?_)
  refine zJ_iload_n dX12_needLength_9 rfl ?_
  refine zJ_aload_n dX12_needLength_10 rfl ?_
  refine zP_getr lf_X12_12 (zSt_ob hs 0 12 rfl) rfl (zSt_rf hs 0 0 1 rfl) dX12_needLength_11 ?_
  refine zP_geti lf_X12_107 (zSt_ob hs 1 10 rfl) rfl dX12_needLength_14 ?_
  refine zJ_icmp_le 41 dX12_needLength_17 (by decide) (fun _ => ?_) (fun c17 => absurd h.2.2 c17)
  refine zJ_vret rfl dX12_needLength_41 ?_
  exact ⟨rfl, rfl⟩
theorem t_needLength (hl : l.stackTraces = false) (hd : 6 ≤ d) (hs : zSt g) {x y : Int32} (hb : ¬ (¬ x < 0 ∧ ¬ y < x ∧ x ≤ I 1 1)) : zT l Xi mX12_needLength d 1 6 [.ref 0, .int x, .int y] I g "java/lang/IllegalArgumentException" (wrU I) := by
  refine zC_of hl rfl rfl rfl (Nat.le_of_ble_eq_true rfl) (zav_r (zSt_ob hs 0 12 rfl).1 (zav_i (zav_i zav_0))) ?_
  refine zJ_iload_n dX12_needLength_0 rfl ?_
  refine zJ_if_lt 20 dX12_needLength_1 (by decide) (fun c1 => ?_) (fun c1 => ?_)
  · skip
    refine zJ_aload_n dX12_needLength_20 rfl ?_
    refine zJ_dup dX12_needLength_21 rfl ?_
    refine zP_geti lf_X12_356 (zSt_ob hs 0 12 rfl) rfl dX12_needLength_22 ?_
    refine zJ_iconst (v := nI 1) dX12_needLength_25 rfl ?_
    refine zJ_iadd dX12_needLength_26 ?_
    refine zP_puti lf_X12_356 (zSt_ob hs 0 12 rfl) rfl dX12_needLength_27 ?_
    refine zJ_throwX (kc := 0) (ks := 0) lx_IAE (num := 30) (tx := "no such length of a text") (List.mem_of_getElem? (i := 23) rfl) (Nat.le_of_ble_eq_true rfl) (by omega) rfl dX12_needLength_30 dX12_needLength_33 dX12_needLength_34 dX12_needLength_37 dX12_needLength_40 ?_
    exact ⟨rfl, rfl⟩
  · skip
    refine zJ_iload_n dX12_needLength_4 rfl ?_
    refine zJ_iload_n dX12_needLength_5 rfl ?_
    refine zJ_icmp_gt 20 dX12_needLength_6 (by decide) (fun c6 => ?_) (fun c6 => ?_)
    · skip
      refine zJ_aload_n dX12_needLength_20 rfl ?_
      refine zJ_dup dX12_needLength_21 rfl ?_
      refine zP_geti lf_X12_356 (zSt_ob hs 0 12 rfl) rfl dX12_needLength_22 ?_
      refine zJ_iconst (v := nI 1) dX12_needLength_25 rfl ?_
      refine zJ_iadd dX12_needLength_26 ?_
      refine zP_puti lf_X12_356 (zSt_ob hs 0 12 rfl) rfl dX12_needLength_27 ?_
      refine zJ_throwX (kc := 0) (ks := 0) lx_IAE (num := 30) (tx := "no such length of a text") (List.mem_of_getElem? (i := 23) rfl) (Nat.le_of_ble_eq_true rfl) (by omega) rfl dX12_needLength_30 dX12_needLength_33 dX12_needLength_34 dX12_needLength_37 dX12_needLength_40 ?_
      exact ⟨rfl, rfl⟩
    · skip
      refine zJ_iload_n dX12_needLength_9 rfl ?_
      refine zJ_aload_n dX12_needLength_10 rfl ?_
      refine zP_getr lf_X12_12 (zSt_ob hs 0 12 rfl) rfl (zSt_rf hs 0 0 1 rfl) dX12_needLength_11 ?_
      refine zP_geti lf_X12_107 (zSt_ob hs 1 10 rfl) rfl dX12_needLength_14 ?_
      refine zJ_icmp_le 41 dX12_needLength_17 (by decide) (fun c17 => ?_) (fun c17 => ?_)
      · skip
        refine zJ_vret rfl dX12_needLength_41 ?_
        exfalso; exact hb ⟨c1, c6, c17⟩
      · skip
        refine zJ_aload_n dX12_needLength_20 rfl ?_
        refine zJ_dup dX12_needLength_21 rfl ?_
        refine zP_geti lf_X12_356 (zSt_ob hs 0 12 rfl) rfl dX12_needLength_22 ?_
        refine zJ_iconst (v := nI 1) dX12_needLength_25 rfl ?_
        refine zJ_iadd dX12_needLength_26 ?_
        refine zP_puti lf_X12_356 (zSt_ob hs 0 12 rfl) rfl dX12_needLength_27 ?_
        refine zJ_throwX (kc := 0) (ks := 0) lx_IAE (num := 30) (tx := "no such length of a text") (List.mem_of_getElem? (i := 23) rfl) (Nat.le_of_ble_eq_true rfl) (by omega) rfl dX12_needLength_30 dX12_needLength_33 dX12_needLength_34 dX12_needLength_37 dX12_needLength_40 ?_
        exact ⟨rfl, rfl⟩
end ZNeed
