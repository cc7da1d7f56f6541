/-! ===== constant strings: length, charAt ===== -/
def zLStr (own : String) (idx : Nat) (M' : zM) (n : Nat) : Prop := zLB own idx M' n ∧ M'.2.1.cls = "java/lang/String" ∧ Cond.instanceMethod M'.2.1 ∈ zGT ∧ Cond.selects M'.2.1.cls M'.2.1 M'.2.1 ∈ zGT
theorem lv_X10_45 : zLStr RX10 45 mJ0_length_8abf5 0 := ⟨⟨rfl, (zt4 62 rfl rfl), (zt1 21 rfl rfl), (zt4 65 rfl rfl), by decide +kernel, by decide⟩, rfl, (zt4 63 rfl rfl), (zt4 64 rfl rfl)⟩
theorem lv_X10_50 : zLStr RX10 50 mJ0_charAt_5068e 1 := ⟨⟨rfl, (zt4 72 rfl rfl), (zt1 21 rfl rfl), (zt4 75 rfl rfl), by decide +kernel, by decide⟩, rfl, (zt4 73 rfl rfl), (zt4 74 rfl rfl)⟩
theorem lv_J0_335 : zLStr RJ0 335 mJ0_coder_7d493 0 := ⟨⟨rfl, (zt4 66 rfl rfl), (zt1 21 rfl rfl), (zt4 69 rfl rfl), by decide +kernel, by decide⟩, rfl, (zt4 67 rfl rfl), (zt4 68 rfl rfl)⟩
theorem lv_J0_492 : zLStr RJ0 492 mJ0_isLatin1_aae02 0 := ⟨⟨rfl, (zt4 76 rfl rfl), (zt1 21 rfl rfl), (zt4 79 rfl rfl), by decide +kernel, by decide⟩, rfl, (zt4 77 rfl rfl), (zt4 78 rfl rfl)⟩
theorem ls_J0_495 : zLS RJ0 495 mJ1_charAt_3b067 2 := ⟨⟨rfl, (zt4 80 rfl rfl), (zt1 22 rfl rfl), (zt4 82 rfl rfl), by decide +kernel, by decide⟩, (zt4 81 rfl rfl)⟩
theorem ls_J1_9 : zLS RJ1 9 mJ0_checkIndex_df160 2 := ⟨⟨rfl, (zt4 83 rfl rfl), (zt1 21 rfl rfl), (zt4 85 rfl rfl), by decide +kernel, by decide⟩, (zt4 84 rfl rfl)⟩
theorem ls_J0_1059 : zLS RJ0 1059 mJ3_checkIndex_8e157 3 := ⟨⟨rfl, (zt4 88 rfl rfl), (zt1 23 rfl rfl), (zt4 90 rfl rfl), by decide +kernel, by decide⟩, (zt4 89 rfl rfl)⟩
theorem lw_J0_9 : Cond.fieldLink RJ0 9 "java/lang/String" "value" "[B" ∈ zGT := (zt9 119 rfl rfl)
theorem lw_J0_15 : Cond.fieldLink RJ0 15 "java/lang/String" "coder" "B" ∈ zGT := (zt9 120 rfl rfl)
theorem lw_J0_38 : Cond.fieldLink RJ0 38 "java/lang/String" "COMPACT_STRINGS" "Z" ∈ zGT := (zt4 70 rfl rfl)
theorem lw_J0_1053 : Cond.fieldLink RJ0 1053 "jdk/internal/util/Preconditions" "SIOOBE_FORMATTER" "Ljava/util/function/BiFunction;" ∈ zGT := (zt4 86 rfl rfl)
section ZSTR
variable {l : Launch} {Xi : zXi} {M : zM} {d kc ks pc : Nat} {Ls : List (Option Value)} {S : List Value} {h : zH} {post : zR → zH → Prop}
theorem zav_n {n : Nat} {vs : List Value} (t : ∀ v ∈ vs, zok n v ∧ v.category = 1) : ∀ v ∈ (Value.null :: vs), zok n v ∧ v.category = 1 := fun v hv => by
  rcases List.mem_cons.mp hv with rfl | hv
  · exact ⟨trivial, rfl⟩
  · exact t v hv
theorem zJ_callT {M' : zM} {idx i d' kc' ks' : Nat} (As rest : List Value) {post1 : zR → zH → Prop} (lk : zLStr M.1 idx M' As.length) (hC : zC l Xi M' d' kc' ks' (.ref (zB + (10 + i)) :: As) h post1) (hi : i < 20) (hst : S = As.reverse ++ .ref (zB + (10 + i)) :: rest) (hd1 : d' + 1 ≤ d) (hcat : (rest.map fun v => v.category).sum ≤ 8) (hM : M.2.2.2.2.2 = []) (hd : decode M.2.2.1 pc = .ok (.invokevirtual idx, 3))
    (kx : ∀ E h1, post1 (.inr E) h1 → h.2.1 ≤ h1.2.1 → post (.inr E) h1) (kk : ∀ r h1, post1 (.inl r) h1 → h.2.1 ≤ h1.2.1 → zJ l Xi M d kc ks (pc + 3) Ls (r.toList ++ rest) h1 post) : zJ l Xi M d (kc + kc') (ks + ks') pc Ls S h post := by
  intro p e R s m args below meth c H locs cells slots ls D cT ao ad A n0 ad0 E hc hs1 hS hP hn he hl hv
  subst hst
  obtain ⟨lb, hcls, hin, hsel⟩ := lk
  have hts := E.2.2.2.2.2.2.1
  have hO := E.2.2.2.2.2.2.2.2.2.2.2.1
  obtain ⟨hF, hpre⟩ := zpre E.2.2.2.2.2.2.2.2.2.2.1 E.2.2.2.2.2.2.2.2.2.2.2.1 hS hP
  have hrest : ∀ v ∈ rest, zok h.2.1 v := fun v q => hv v (List.mem_append_right _ (List.mem_cons_of_mem _ q))
  have hrec : ∃ cell : Cell, H[ad (zB + (10 + i))]? = some cell ∧ cell.vm.isStatics = false ∧ s.vm.findClass M'.2.1.cls = some cell.cls := by
    rw [hP.2.2.2.1 (10 + i), hcls]
    have q := vk_recv (i := i) hO.2.2.1 hi hS
    exact q
  refine z_callX (D := D) (cT := cT) (ao := ao) (ad := ad) (n1 := h.2.1) (post1 := post1) (A1 := va_A (zw ad cT h) H.size) (rest := rest.map (zv ad)) (vx_runV (As := As.map (zv ad)) (rest := rest.map (zv ad)) (b := ad (zB + (10 + i))) (C := M'.2.1.cls) (Ts := zGT) ⟨E.1, E.2.1, E.2.2.1, E.2.2.2.2.2.1, hts⟩ (hC D cT ao ad H.size) ⟨zLB_call lb hts hd1 E.2.2.2.2.2.2.2.2.1 E.2.2.2.2.2.2.2.2.2.1, hts _ hin, hts _ hsel⟩ ⟨zPc_blind, hrec, fun U hU hW => hpre U hU hW (.ref (zB + (10 + i)) :: As)⟩ rfl (by simp) hl.1.1 (by simp [zv]) (lv_room (by rw [zS_cat]; exact hcat)) hd ⟨by omega, by omega⟩) hS (fun q _ hq => hF q hq) hF ?_ ?_
  · intro E1 ce q9 h' ad' t H1 locs1 ht hvm hp hn1 he1 hP1 hS1 hce hcv hcl1
    refine vx_out (by rw [E.2.2.2.2.2.2.2.1, hM]; intro x hx; cases hx) E.2.2.2.2.1 hce hcv hcl1 (fun t2 ht2 hv2 => ⟨⟨h', ad', kx E1 h' hp hn1, Nat.le_trans hn hn1, zext_trans he hn he1, by
      have := zpost (s := t2) hF (hv2.symm.trans hvm) hP1
      rw [ht2]; exact this⟩, hS1.F ht2⟩) hS1.2.2 (by omega) (by omega)
  · intro r h' ad' t H1 locs1 ht hvm hp hn1 he1 hz hP1 hS1
    have K := kk r h' hp hn1 p e R s m args below meth c H1 locs1 (cells + kc') (slots + ks') ls D cT ao ad' A n0 ad0 E (by omega) (by omega) hS1 (zpost hF hvm hP1) (Nat.le_trans hn hn1) (zext_trans he hn he1) (zL_ext he1 hn1 hl) (fun v q => by
      rcases List.mem_append.mp q with q | q
      · cases r with
        | none => cases q
        | some w => rw [List.mem_singleton.mp q]; exact hz w rfl
      · exact zok_mono hn1 (hrest v q))
    rw [List.map_append, zS_ext he1 hrest] at K
    have e9 : (r.toList).map (zv ad') = (r.map (zv ad')).toList := by cases r <;> rfl
    rw [e9] at K
    exact K
theorem zJ_nret {x : Int32} {ty : FieldType} (hr : M.2.2.2.2.1 = some ty) (hx : narrow ty (.int x) = .int x) (hd : decode M.2.2.1 pc = .ok (.ireturn, 1)) (hp : post (.inl (some (.int x))) h) : zJ l Xi M d kc ks pc Ls [.int x] h post := by
  intro p e R s m args below meth c H locs cells slots ls D cT ao ad A n0 ad0 E hc hs1 hS hP hn he hl hv
  have hlocks := E.2.2.2.2.1
  refine vx_ret (W.widen (k := R.cells) (n := R.slots) (by omega) (by omega) (W.zret (v := x) E.1 E.2.1 (E.2.2.2.1.trans hr) hx (fun t ht hW => ⟨⟨some (.int x), h, ad, rfl, hp, hn, he, (fun v q => by cases q; exact trivial), va_K.moved hW.alike hP.1, by rw [ht]; exact hP.2.1, hP.2.2⟩, hS.F ht⟩) hS.2.2 hd))
theorem zJ_i2c {x v : Int32} (hd : decode M.2.2.1 pc = .ok (.i2c, 1)) (hv : (x.toUInt32 % 65536).toInt32 = v) (k : zJ l Xi M d kc ks (pc + 1) Ls (.int v :: S) h post) : zJ l Xi M d kc ks pc Ls (.int x :: S) h post := zJ_row (fun n q v hv => by rcases List.mem_cons.mp hv with rfl | hv; exact trivial; exact q v (by first | exact hv | exact List.mem_cons_of_mem _ hv | exact List.mem_cons_of_mem _ (List.mem_cons_of_mem _ hv))) (fun p e R s m args below meth c H locs cells slots Q ls ad hx hb ho ht k => lv_i2c hx hb hd hv k) k
theorem zJ_getValue {i : Nat} (hM : M.1 = RJ0) (hi : i < 20) (hd : decode M.2.2.1 pc = .ok (.getfield 9, 3)) (kk : zJ l Xi M d kc ks (pc + 3) Ls (.ref (zB + (40 + i)) :: S) h post) : zJ l Xi M d kc ks pc Ls (.ref (zB + (10 + i)) :: S) h post := by
  intro p e R s m args below meth c H locs cells slots ls D cT ao ad A n0 ad0 E hc hs1 hS hP hn he hl hv
  have K := kk p e R s m args below meth c H locs cells slots ls D cT ao ad A n0 ad0 E hc hs1 hS hP hn he hl (fun v q => by rcases List.mem_cons.mp q with rfl | q; exact Or.inr (by omega); exact hv v (List.mem_cons_of_mem _ q))
  rw [List.map_cons, zv, hP.2.2.2.1 (40 + i)] at K
  have hO := E.2.2.2.2.2.2.2.2.2.2.2.1
  rw [List.map_cons, zv, hP.2.2.2.1 (10 + i)]
  exact vk_getf E.1 E.2.1 (hO.2.2.1.1 i hi).2.2.1 hS (hM ▸ E.2.2.2.2.2.1) (E.2.2.2.2.2.2.1 _ lw_J0_9) (fun _ q => q) hd K
theorem zJ_getCoder {i : Nat} (hM : M.1 = RJ0) (hi : i < 20) (hd : decode M.2.2.1 pc = .ok (.getfield 15, 3)) (kk : zJ l Xi M d kc ks (pc + 3) Ls (.int 0 :: S) h post) : zJ l Xi M d kc ks pc Ls (.ref (zB + (10 + i)) :: S) h post := by
  intro p e R s m args below meth c H locs cells slots ls D cT ao ad A n0 ad0 E hc hs1 hS hP hn he hl hv
  have K := kk p e R s m args below meth c H locs cells slots ls D cT ao ad A n0 ad0 E hc hs1 hS hP hn he hl (fun v q => by rcases List.mem_cons.mp q with rfl | q; exact trivial; exact hv v (List.mem_cons_of_mem _ q))
  have hO := E.2.2.2.2.2.2.2.2.2.2.2.1
  rw [List.map_cons, zv, hP.2.2.2.1 (10 + i)]
  exact vk_getf E.1 E.2.1 (hO.2.2.1.1 i hi).2.1 hS (hM ▸ E.2.2.2.2.2.1) (E.2.2.2.2.2.2.1 _ lw_J0_15) (fun _ q => q) hd K
theorem zJ_getCompact (hM : M.1 = RJ0) (hd : decode M.2.2.1 pc = .ok (.getstatic 38, 3)) (kk : zJ l Xi M d kc ks (pc + 3) Ls (.int 1 :: S) h post) : zJ l Xi M d kc ks pc Ls S h post := by
  intro p e R s m args below meth c H locs cells slots ls D cT ao ad A n0 ad0 E hc hs1 hS hP hn he hl hv
  have K := kk p e R s m args below meth c H locs cells slots ls D cT ao ad A n0 ad0 E hc hs1 hS hP hn he hl (fun v q => by rcases List.mem_cons.mp q with rfl | q; exact trivial; exact hv v q)
  have hO := E.2.2.2.2.2.2.2.2.2.2.2.1
  exact va_gets E.1 E.2.1 hO.2.2.2.2.1 hS (hM ▸ E.2.2.2.2.2.1) (E.2.2.2.2.2.2.1 _ lw_J0_38) (fun _ q => q) hd K
theorem zJ_getSio (hM : M.1 = RJ0) (hd : decode M.2.2.1 pc = .ok (.getstatic 1053, 3)) (k1 : zJ l Xi M d kc ks (pc + 3) Ls (.ref (zB + 60) :: S) h post) (k2 : zJ l Xi M d kc ks (pc + 3) Ls (.null :: S) h post) : zJ l Xi M d kc ks pc Ls S h post := by
  intro p e R s m args below meth c H locs cells slots ls D cT ao ad A n0 ad0 E hc hs1 hS hP hn he hl hv
  have hO := E.2.2.2.2.2.2.2.2.2.2.2.1
  rcases hO.2.2.2.2.2.2.2.2.2.2.2.2.2.2.2.1 with hZ | hZ
  · have K := k1 p e R s m args below meth c H locs cells slots ls D cT ao ad A n0 ad0 E hc hs1 hS hP hn he hl (fun v q => by rcases List.mem_cons.mp q with rfl | q; exact Or.inr (by omega); exact hv v q)
    rw [List.map_cons, zv, hP.2.2.2.1 60] at K
    exact va_gets E.1 E.2.1 hZ hS (hM ▸ E.2.2.2.2.2.1) (E.2.2.2.2.2.2.1 _ lw_J0_1053) (fun _ q => q) hd K
  · have K := k2 p e R s m args below meth c H locs cells slots ls D cT ao ad A n0 ad0 E hc hs1 hS hP hn he hl (fun v q => by rcases List.mem_cons.mp q with rfl | q; exact trivial; exact hv v q)
    exact va_gets E.1 E.2.1 hZ hS (hM ▸ E.2.2.2.2.2.1) (E.2.2.2.2.2.2.1 _ lw_J0_1053) (fun _ q => q) hd K
theorem zJ_alenT {i : Nat} (hi : i < 20) (hd : decode M.2.2.1 pc = .ok (.arraylength, 1)) (kk : zJ l Xi M d kc ks (pc + 1) Ls (.int (nI ((zbyt.map List.length).getD i 0)) :: S) h post) : zJ l Xi M d kc ks pc Ls (.ref (zB + (40 + i)) :: S) h post := by
  intro p e R s m args below meth c H locs cells slots ls D cT ao ad A n0 ad0 E hc hs1 hS hP hn he hl hv
  have K := kk p e R s m args below meth c H locs cells slots ls D cT ao ad A n0 ad0 E hc hs1 hS hP hn he hl (fun v q => by rcases List.mem_cons.mp q with rfl | q; exact trivial; exact hv v (List.mem_cons_of_mem _ q))
  have hO := E.2.2.2.2.2.2.2.2.2.2.2.1
  rw [List.map_cons, zv, hP.2.2.2.1 (40 + i)]
  exact va_tlen E.1 E.2.1 (hO.2.2.1.1 i hi).2.2.2 hS rfl hd K
theorem zJ_baldT {i : Nat} {x : Int32} (hi : i < 20) (hin : vp_in x ((zbyt.map List.length).getD i 0)) (hd : decode M.2.2.1 pc = .ok (.baload, 1)) (kk : zJ l Xi M d kc ks (pc + 1) Ls (.int ((zbyt.getD i []).getD x.toNatClampNeg 0) :: S) h post) : zJ l Xi M d kc ks pc Ls (.int x :: .ref (zB + (40 + i)) :: S) h post := by
  intro p e R s m args below meth c H locs cells slots ls D cT ao ad A n0 ad0 E hc hs1 hS hP hn he hl hv
  have K := kk p e R s m args below meth c H locs cells slots ls D cT ao ad A n0 ad0 E hc hs1 hS hP hn he hl (fun v q => by rcases List.mem_cons.mp q with rfl | q; exact trivial; exact hv v (List.mem_cons_of_mem _ (List.mem_cons_of_mem _ q)))
  have hO := E.2.2.2.2.2.2.2.2.2.2.2.1
  show W p l e R s m args below meth c H locs cells slots _ (F0 m pc ls (.int x :: .ref (ad (zB + (40 + i))) :: S.map (zv ad)))
  rw [hP.2.2.2.1 (40 + i)]
  exact va_tb E.1 E.2.1 (hO.2.2.1.1 i hi).2.2.2 hS hin rfl hd K
end ZSTR
section ZSTR2
variable {l : Launch} {Xi : zXi} {M : zM} {d d' kc ks pc idx i : Nat} {Ls : List (Option Value)} {S : List Value} {post : zR → zH → Prop} {I I' : zI} {g : zG} {x : Int32}
theorem zP_callTi {M' : zM} (As rest : List Value) (lk : zLStr M.1 idx M' As.length) (hC : zD l Xi M' d' (.ref (zB + (10 + i)) :: As) I g (some (.int x)) I') (hi : i < 20) (hst : S = As.reverse ++ .ref (zB + (10 + i)) :: rest) (hd1 : d' + 1 ≤ d) (hcat : (rest.map fun v => v.category).sum ≤ 8) (hM : M.2.2.2.2.2 = []) (hd : decode M.2.2.1 pc = .ok (.invokevirtual idx, 3)) (kk : zJ l Xi M d kc ks (pc + 3) Ls (.int x :: rest) (I', g) post) : zJ l Xi M d kc ks pc Ls S (I, g) post :=
  zJ_callT (kc' := 0) (ks' := 0) (h := (I, g)) As rest lk hC hi hst hd1 hcat hM hd (fun E h1 q => by cases q.1) (fun r h1 q _ => by obtain ⟨q1, q2⟩ := q; cases q1; subst q2; exact kk)
theorem k_coder (hl : l.stackTraces = false) (hd : 1 ≤ d) (hi : i < 20) : zD l Xi mJ0_coder_7d493 d [.ref (zB + (10 + i))] I g (some (.int 0)) I := by
  refine zC_of hl rfl rfl rfl (Nat.le_of_ble_eq_true rfl) (zav_k (by omega) zav_0) ?_
  refine zJ_getCompact rfl dJ0_coder_7d493_0 ?_
  refine zJ_if_eq 13 dJ0_coder_7d493_3 (by decide) (fun c => absurd c (by decide)) (fun _ => ?_)
  refine zJ_aload_n dJ0_coder_7d493_6 rfl ?_
  refine zJ_getCoder rfl hi dJ0_coder_7d493_7 ?_
  refine zJ_goto 14 dJ0_coder_7d493_10 (by decide) ?_
  exact zJ_nret rfl (by rfl) dJ0_coder_7d493_14 ⟨rfl, rfl⟩
theorem k_isLatin1 (hl : l.stackTraces = false) (hd : 1 ≤ d) (hi : i < 20) : zD l Xi mJ0_isLatin1_aae02 d [.ref (zB + (10 + i))] I g (some (.int 1)) I := by
  refine zC_of hl rfl rfl rfl (Nat.le_of_ble_eq_true rfl) (zav_k (by omega) zav_0) ?_
  refine zJ_getCompact rfl dJ0_isLatin1_aae02_0 ?_
  refine zJ_if_eq 17 dJ0_isLatin1_aae02_3 (by decide) (fun c => absurd c (by decide)) (fun _ => ?_)
  refine zJ_aload_n dJ0_isLatin1_aae02_6 rfl ?_
  refine zJ_getCoder rfl hi dJ0_isLatin1_aae02_7 ?_
  refine zJ_if_ne 17 dJ0_isLatin1_aae02_10 (by decide) (fun c => absurd rfl c) (fun _ => ?_)
  refine zJ_iconst (v := 1) dJ0_isLatin1_aae02_13 rfl ?_
  refine zJ_goto 18 dJ0_isLatin1_aae02_14 (by decide) ?_
  exact zJ_zret rfl (Or.inr rfl) dJ0_isLatin1_aae02_18 ⟨rfl, rfl⟩
theorem zlen_ok : ∀ i, i < 20 → nI ((zbyt.map List.length).getD i 0) >>> ((0 : Int32) &&& 31) = nI ((zbyt.map List.length).getD i 0) ∧ (zbyt.map List.length).getD i 0 ≤ 5 ∧ (zbyt.map List.length).getD i 0 = (zbyt.getD i []).length := by decide
theorem k_strlen (hl : l.stackTraces = false) (hd : 2 ≤ d) (hi : i < 20) : zD l Xi mJ0_length_8abf5 d [.ref (zB + (10 + i))] I g (some (.int (nI (zbyt.getD i []).length))) I := by
  refine zC_of hl rfl rfl rfl (Nat.le_of_ble_eq_true rfl) (zav_k (by omega) zav_0) ?_
  refine zJ_aload_n dJ0_length_8abf5_0 rfl ?_
  refine zJ_getValue rfl hi dJ0_length_8abf5_1 ?_
  refine zJ_alenT hi dJ0_length_8abf5_4 ?_
  refine zJ_aload_n dJ0_length_8abf5_5 rfl ?_
  refine zP_callTi [] _ lv_J0_335 (k_coder (d := d - 1) hl (by omega) hi) hi rfl (by omega) (Nat.le_of_ble_eq_true rfl) rfl dJ0_length_8abf5_6 ?_
  refine zJ_ishr dJ0_length_8abf5_9 ?_
  refine zJ_iret rfl dJ0_length_8abf5_10 ?_
  rw [(zlen_ok i hi).1, (zlen_ok i hi).2.2]
  exact ⟨rfl, rfl⟩
theorem k_chk3 (hl : l.stackTraces = false) (hd : 1 ≤ d) {k n : Nat} (hk : k < n) (hn : n < 2 ^ 30) {v : Value} (hv : v = .ref (zB + 60) ∨ v = .null) : zD l Xi mJ3_checkIndex_8e157 d [.int (nI k), .int (nI n), v] I g (some (.int (nI k))) I := by
  refine zC_of hl rfl rfl rfl (Nat.le_of_ble_eq_true rfl) (zav_i (zav_i (by rcases hv with rfl | rfl; exact zav_k (by omega) zav_0; exact zav_n zav_0))) ?_
  refine zJ_iload_n dJ3_checkIndex_8e157_0 rfl ?_
  refine zJ_if_lt 9 dJ3_checkIndex_8e157_1 (by decide) (fun c => absurd c (nI_pos (by omega))) (fun _ => ?_)
  refine zJ_iload_n dJ3_checkIndex_8e157_4 rfl ?_
  refine zJ_iload_n dJ3_checkIndex_8e157_5 rfl ?_
  refine zJ_icmp_lt 16 dJ3_checkIndex_8e157_6 (by decide) (fun _ => ?_) (fun c => absurd (nI_lt hk (by omega)) c)
  refine zJ_iload_n dJ3_checkIndex_8e157_16 rfl ?_
  exact zJ_iret rfl dJ3_checkIndex_8e157_17 ⟨rfl, rfl⟩
theorem k_chk0 (hl : l.stackTraces = false) (hd : 2 ≤ d) {k n : Nat} (hk : k < n) (hn : n < 2 ^ 30) : zD l Xi mJ0_checkIndex_df160 d [.int (nI k), .int (nI n)] I g none I := by
  refine zC_of hl rfl rfl rfl (Nat.le_of_ble_eq_true rfl) (zav_i (zav_i zav_0)) ?_
  refine zJ_iload_n dJ0_checkIndex_df160_0 rfl ?_
  refine zJ_iload_n dJ0_checkIndex_df160_1 rfl ?_
  refine zJ_getSio rfl dJ0_checkIndex_df160_2 ?_ ?_
  · refine zP_callSi [_, _, _] _ ls_J0_1059 (k_chk3 (d := d - 1) hl (by omega) hk hn (Or.inl rfl)) rfl (by omega) (Nat.le_of_ble_eq_true rfl) rfl dJ0_checkIndex_df160_5 ?_
    refine zJ_pop dJ0_checkIndex_df160_8 rfl ?_
    exact zJ_vret rfl dJ0_checkIndex_df160_9 ⟨rfl, rfl⟩
  · refine zP_callSi [_, _, _] _ ls_J0_1059 (k_chk3 (d := d - 1) hl (by omega) hk hn (Or.inr rfl)) rfl (by omega) (Nat.le_of_ble_eq_true rfl) rfl dJ0_checkIndex_df160_5 ?_
    refine zJ_pop dJ0_checkIndex_df160_8 rfl ?_
    exact zJ_vret rfl dJ0_checkIndex_df160_9 ⟨rfl, rfl⟩
theorem zchr_ok : ∀ i, i < 20 → ∀ k, k < (zbyt.getD i []).length → ((((zbyt.getD i []).getD k 0 &&& 255).toUInt32 % 65536).toInt32 = (zbyt.getD i []).getD k 0) ∧ narrow .char (.int ((zbyt.getD i []).getD k 0)) = .int ((zbyt.getD i []).getD k 0) := by decide +kernel
theorem k_chr1 (hl : l.stackTraces = false) (hd : 3 ≤ d) (hi : i < 20) {k : Nat} (hk : k < (zbyt.getD i []).length) : zD l Xi mJ1_charAt_3b067 d [.ref (zB + (40 + i)), .int (nI k)] I g (some (.int ((zbyt.getD i []).getD k 0))) I := by
  have hz := zlen_ok i hi
  refine zC_of hl rfl rfl rfl (Nat.le_of_ble_eq_true rfl) (zav_k (by omega) (zav_i zav_0)) ?_
  refine zJ_iload_n dJ1_charAt_3b067_0 rfl ?_
  refine zJ_aload_n dJ1_charAt_3b067_1 rfl ?_
  refine zJ_alenT hi dJ1_charAt_3b067_2 ?_
  refine zP_callSv [_, _] _ ls_J1_9 (k_chk0 (d := d - 1) hl (by omega) (by omega) (by omega)) rfl (by omega) (Nat.le_of_ble_eq_true rfl) rfl dJ1_charAt_3b067_3 ?_
  refine zJ_aload_n dJ1_charAt_3b067_6 rfl ?_
  refine zJ_iload_n dJ1_charAt_3b067_7 rfl ?_
  refine zJ_baldT hi (by with_reducible exact vp_in_nI (by omega) (by omega)) dJ1_charAt_3b067_8 ?_
  refine zJ_sipush (v := 255) dJ1_charAt_3b067_9 rfl ?_
  refine zJ_iand dJ1_charAt_3b067_12 ?_
  rw [nI_clamp (by omega)]
  refine zJ_i2c dJ1_charAt_3b067_13 (zchr_ok i hi k hk).1 ?_
  exact zJ_nret rfl (zchr_ok i hi k hk).2 dJ1_charAt_3b067_14 ⟨rfl, rfl⟩
theorem k_charAt (hl : l.stackTraces = false) (hd : 4 ≤ d) (hi : i < 20) {k : Nat} (hk : k < (zbyt.getD i []).length) : zD l Xi mJ0_charAt_5068e d [.ref (zB + (10 + i)), .int (nI k)] I g (some (.int ((zbyt.getD i []).getD k 0))) I := by
  refine zC_of hl rfl rfl rfl (Nat.le_of_ble_eq_true rfl) (zav_k (by omega) (zav_i zav_0)) ?_
  refine zJ_aload_n dJ0_charAt_5068e_0 rfl ?_
  refine zP_callTi [] _ lv_J0_492 (k_isLatin1 (d := d - 1) hl (by omega) hi) hi rfl (by omega) (Nat.le_of_ble_eq_true rfl) rfl dJ0_charAt_5068e_1 ?_
  refine zJ_if_eq 16 dJ0_charAt_5068e_4 (by decide) (fun c => absurd c (by decide)) (fun _ => ?_)
  refine zJ_aload_n dJ0_charAt_5068e_7 rfl ?_
  refine zJ_getValue rfl hi dJ0_charAt_5068e_8 ?_
  refine zJ_iload_n dJ0_charAt_5068e_11 rfl ?_
  refine zP_callSi [_, _] _ ls_J0_495 (k_chr1 (d := d - 1) hl (by omega) hi hk) rfl (by omega) (Nat.le_of_ble_eq_true rfl) rfl dJ0_charAt_5068e_12 ?_
  exact zJ_nret rfl (zchr_ok i hi k hk).2 dJ0_charAt_5068e_15 ⟨rfl, rfl⟩
end ZSTR2
