/-! ===== the law's wrappers ===== -/
section ZWrap
variable {l : Launch} {Xi : zXi} {d : Nat} {I : zI} {g : zG}
theorem lx_13 : Cond.classLink RL 13 "java/lang/IllegalArgumentException" ∈ zGT := (zt3 193 rfl rfl)
theorem lx_31 : Cond.classLink RL 31 "java/util/NoSuchElementException" ∈ zGT := (zt5 124 rfl rfl)
def zLo (g : zG) : Prop := 642 < g.1 ∧ g.2.1 642 = .inr (1, 1)
/-- the answer laid into `out` -/
def hlo (h : zH) (v : Int32) : zH := (h.1, h.2.1, h.2.2.1, h.2.2.2.1, va_up h.2.2.2.2 642 (vp_updL (h.2.2.2.2 642) 0 v.toInt64))
theorem w_board (hl : l.stackTraces = false) (hs : zSt g) (hlo' : zLo g) {d' kc ks : Nat} (hd : d' + 1 ≤ d) {a1 : Int32} {post1 post : zR → zH → Prop} (hC : zC l Xi mX12_board d' kc ks [.ref 0, .int a1] (I, g) post1) (hx : ∀ E h1, post1 (.inr E) h1 → g.1 ≤ h1.2.1 → (E = "java/lang/IllegalArgumentException" ∧ post (.inl (some (.int (nI 1)))) h1))
    (hk : ∀ r h1, post1 (.inl r) h1 → g.1 ≤ h1.2.1 → ∃ v, r = some (.int v) ∧ h1.2.2.1 642 = .inr (1, 1) ∧ post (.inl (some (.int (nI 0)))) (hlo h1 v)) : zC l Xi mL_board d kc ks [.ref 0, .int a1, .ref 642] (I, g) post := by
  refine zC_ofH hl rfl rfl rfl (Nat.le_of_ble_eq_true rfl) (zav_r (zSt_ob hs 0 12 rfl).1 (zav_i (zav_r hlo'.1 zav_0))) ?_
  refine zJ_aload_n dL_board_0 rfl ?_
  refine zJ_iconst dL_board_1 (v := nI 0) rfl ?_
  refine zJ_aload_n dL_board_2 rfl ?_
  refine zJ_iload_n dL_board_3 rfl ?_
  refine zJ_wid (kc := 0 + kc) (ks := 0 + ks) (by omega) (by omega) (zJ_callVH (kc := 0) (ks := 0) [.int a1] [.int (nI 0), .ref 642] lv_L_7 hC (zSt_ob hs 0 12 rfl).1 (zSt_ob hs 0 12 rfl).2 rfl hd (Nat.le_of_ble_eq_true rfl) rfl dL_board_4 (fun E h1 q hn => ?_) (fun r h1 q hn => ?_))
  · rcases hx E h1 q hn with ⟨rfl, z⟩
    · exact ⟨nI 1, ⟨[], [], ⟨0, 9, 12, 13⟩, rfl, (fun z hz => by cases hz), rfl, by decide, lx_13, Or.inl rfl, 3, 1, Or.inl ⟨3, rfl, rfl, dL_board_12⟩, by decide, ⟨1, dL_board_13, rfl⟩, dL_board_14⟩, z⟩
  · obtain ⟨v, rfl, z1, z2⟩ := hk r h1 q hn
    refine zJ_i2l dL_board_7 ?_
    refine zJ_last (Nat.lt_of_lt_of_le hlo'.1 hn) z1 (vp_in_nI (n := 0) (by omega) (by omega)) dL_board_8 ?_
    refine zJ_goto 15 dL_board_9 (by decide) ?_
    refine zJ_iconst dL_board_15 (v := nI 0) rfl ?_
    exact zJ_iret rfl dL_board_16 z2
theorem w_law (hl : l.stackTraces = false) (hs : zSt g) (hlo' : zLo g) {d' kc ks : Nat} (hd : d' + 1 ≤ d) {a1 : Int32} {post1 post : zR → zH → Prop} (hC : zC l Xi mX12_law d' kc ks [.ref 0, .int a1] (I, g) post1) (hx : ∀ E h1, post1 (.inr E) h1 → g.1 ≤ h1.2.1 → (E = "java/lang/IllegalArgumentException" ∧ post (.inl (some (.int (nI 1)))) h1))
    (hk : ∀ r h1, post1 (.inl r) h1 → g.1 ≤ h1.2.1 → ∃ v, r = some (.int v) ∧ h1.2.2.1 642 = .inr (1, 1) ∧ post (.inl (some (.int (nI 0)))) (hlo h1 v)) : zC l Xi mL_law d kc ks [.ref 0, .int a1, .ref 642] (I, g) post := by
  refine zC_ofH hl rfl rfl rfl (Nat.le_of_ble_eq_true rfl) (zav_r (zSt_ob hs 0 12 rfl).1 (zav_i (zav_r hlo'.1 zav_0))) ?_
  refine zJ_aload_n dL_law_0 rfl ?_
  refine zJ_iconst dL_law_1 (v := nI 0) rfl ?_
  refine zJ_aload_n dL_law_2 rfl ?_
  refine zJ_iload_n dL_law_3 rfl ?_
  refine zJ_wid (kc := 0 + kc) (ks := 0 + ks) (by omega) (by omega) (zJ_callVH (kc := 0) (ks := 0) [.int a1] [.int (nI 0), .ref 642] lv_L_15 hC (zSt_ob hs 0 12 rfl).1 (zSt_ob hs 0 12 rfl).2 rfl hd (Nat.le_of_ble_eq_true rfl) rfl dL_law_4 (fun E h1 q hn => ?_) (fun r h1 q hn => ?_))
  · rcases hx E h1 q hn with ⟨rfl, z⟩
    · exact ⟨nI 1, ⟨[], [], ⟨0, 9, 12, 13⟩, rfl, (fun z hz => by cases hz), rfl, by decide, lx_13, Or.inl rfl, 3, 1, Or.inl ⟨3, rfl, rfl, dL_law_12⟩, by decide, ⟨1, dL_law_13, rfl⟩, dL_law_14⟩, z⟩
  · obtain ⟨v, rfl, z1, z2⟩ := hk r h1 q hn
    refine zJ_i2l dL_law_7 ?_
    refine zJ_last (Nat.lt_of_lt_of_le hlo'.1 hn) z1 (vp_in_nI (n := 0) (by omega) (by omega)) dL_law_8 ?_
    refine zJ_goto 15 dL_law_9 (by decide) ?_
    refine zJ_iconst dL_law_15 (v := nI 0) rfl ?_
    exact zJ_iret rfl dL_law_16 z2
theorem w_work (hl : l.stackTraces = false) (hs : zSt g) (hlo' : zLo g) {d' kc ks : Nat} (hd : d' + 1 ≤ d) {a1 : Int32} {post1 post : zR → zH → Prop} (hC : zC l Xi mX12_work d' kc ks [.ref 0, .int a1] (I, g) post1) (hx : ∀ E h1, post1 (.inr E) h1 → g.1 ≤ h1.2.1 → (E = "java/lang/IllegalArgumentException" ∧ post (.inl (some (.int (nI 1)))) h1))
    (hk : ∀ r h1, post1 (.inl r) h1 → g.1 ≤ h1.2.1 → ∃ v, r = some (.int v) ∧ h1.2.2.1 642 = .inr (1, 1) ∧ post (.inl (some (.int (nI 0)))) (hlo h1 v)) : zC l Xi mL_work d kc ks [.ref 0, .int a1, .ref 642] (I, g) post := by
  refine zC_ofH hl rfl rfl rfl (Nat.le_of_ble_eq_true rfl) (zav_r (zSt_ob hs 0 12 rfl).1 (zav_i (zav_r hlo'.1 zav_0))) ?_
  refine zJ_aload_n dL_work_0 rfl ?_
  refine zJ_iconst dL_work_1 (v := nI 0) rfl ?_
  refine zJ_aload_n dL_work_2 rfl ?_
  refine zJ_iload_n dL_work_3 rfl ?_
  refine zJ_wid (kc := 0 + kc) (ks := 0 + ks) (by omega) (by omega) (zJ_callVH (kc := 0) (ks := 0) [.int a1] [.int (nI 0), .ref 642] lv_L_18 hC (zSt_ob hs 0 12 rfl).1 (zSt_ob hs 0 12 rfl).2 rfl hd (Nat.le_of_ble_eq_true rfl) rfl dL_work_4 (fun E h1 q hn => ?_) (fun r h1 q hn => ?_))
  · rcases hx E h1 q hn with ⟨rfl, z⟩
    · exact ⟨nI 1, ⟨[], [], ⟨0, 9, 12, 13⟩, rfl, (fun z hz => by cases hz), rfl, by decide, lx_13, Or.inl rfl, 3, 1, Or.inl ⟨3, rfl, rfl, dL_work_12⟩, by decide, ⟨1, dL_work_13, rfl⟩, dL_work_14⟩, z⟩
  · obtain ⟨v, rfl, z1, z2⟩ := hk r h1 q hn
    refine zJ_i2l dL_work_7 ?_
    refine zJ_last (Nat.lt_of_lt_of_le hlo'.1 hn) z1 (vp_in_nI (n := 0) (by omega) (by omega)) dL_work_8 ?_
    refine zJ_goto 15 dL_work_9 (by decide) ?_
    refine zJ_iconst dL_work_15 (v := nI 0) rfl ?_
    exact zJ_iret rfl dL_work_16 z2
theorem w_book (hl : l.stackTraces = false) (hs : zSt g) (hlo' : zLo g) {d' kc ks : Nat} (hd : d' + 1 ≤ d) {a1 : Int32} {post1 post : zR → zH → Prop} (hC : zC l Xi mX12_book d' kc ks [.ref 0, .int a1] (I, g) post1) (hx : ∀ E h1, post1 (.inr E) h1 → g.1 ≤ h1.2.1 → (E = "java/lang/IllegalArgumentException" ∧ post (.inl (some (.int (nI 1)))) h1))
    (hk : ∀ r h1, post1 (.inl r) h1 → g.1 ≤ h1.2.1 → ∃ v, r = some (.int v) ∧ h1.2.2.1 642 = .inr (1, 1) ∧ post (.inl (some (.int (nI 0)))) (hlo h1 v)) : zC l Xi mL_book d kc ks [.ref 0, .int a1, .ref 642] (I, g) post := by
  refine zC_ofH hl rfl rfl rfl (Nat.le_of_ble_eq_true rfl) (zav_r (zSt_ob hs 0 12 rfl).1 (zav_i (zav_r hlo'.1 zav_0))) ?_
  refine zJ_aload_n dL_book_0 rfl ?_
  refine zJ_iconst dL_book_1 (v := nI 0) rfl ?_
  refine zJ_aload_n dL_book_2 rfl ?_
  refine zJ_iload_n dL_book_3 rfl ?_
  refine zJ_wid (kc := 0 + kc) (ks := 0 + ks) (by omega) (by omega) (zJ_callVH (kc := 0) (ks := 0) [.int a1] [.int (nI 0), .ref 642] lv_L_21 hC (zSt_ob hs 0 12 rfl).1 (zSt_ob hs 0 12 rfl).2 rfl hd (Nat.le_of_ble_eq_true rfl) rfl dL_book_4 (fun E h1 q hn => ?_) (fun r h1 q hn => ?_))
  · rcases hx E h1 q hn with ⟨rfl, z⟩
    · exact ⟨nI 1, ⟨[], [], ⟨0, 9, 12, 13⟩, rfl, (fun z hz => by cases hz), rfl, by decide, lx_13, Or.inl rfl, 3, 1, Or.inl ⟨3, rfl, rfl, dL_book_12⟩, by decide, ⟨1, dL_book_13, rfl⟩, dL_book_14⟩, z⟩
  · obtain ⟨v, rfl, z1, z2⟩ := hk r h1 q hn
    refine zJ_i2l dL_book_7 ?_
    refine zJ_last (Nat.lt_of_lt_of_le hlo'.1 hn) z1 (vp_in_nI (n := 0) (by omega) (by omega)) dL_book_8 ?_
    refine zJ_goto 15 dL_book_9 (by decide) ?_
    refine zJ_iconst dL_book_15 (v := nI 0) rfl ?_
    exact zJ_iret rfl dL_book_16 z2
theorem w_told (hl : l.stackTraces = false) (hs : zSt g) (hlo' : zLo g) {d' kc ks : Nat} (hd : d' + 1 ≤ d) {a1 : Int32} {post1 post : zR → zH → Prop} (hC : zC l Xi mX12_told d' kc ks [.ref 0, .int a1] (I, g) post1) (hx : ∀ E h1, post1 (.inr E) h1 → g.1 ≤ h1.2.1 → (E = "java/lang/IllegalArgumentException" ∧ post (.inl (some (.int (nI 1)))) h1))
    (hk : ∀ r h1, post1 (.inl r) h1 → g.1 ≤ h1.2.1 → ∃ v, r = some (.int v) ∧ h1.2.2.1 642 = .inr (1, 1) ∧ post (.inl (some (.int (nI 0)))) (hlo h1 v)) : zC l Xi mL_told d kc ks [.ref 0, .int a1, .ref 642] (I, g) post := by
  refine zC_ofH hl rfl rfl rfl (Nat.le_of_ble_eq_true rfl) (zav_r (zSt_ob hs 0 12 rfl).1 (zav_i (zav_r hlo'.1 zav_0))) ?_
  refine zJ_aload_n dL_told_0 rfl ?_
  refine zJ_iconst dL_told_1 (v := nI 0) rfl ?_
  refine zJ_aload_n dL_told_2 rfl ?_
  refine zJ_iload_n dL_told_3 rfl ?_
  refine zJ_wid (kc := 0 + kc) (ks := 0 + ks) (by omega) (by omega) (zJ_callVH (kc := 0) (ks := 0) [.int a1] [.int (nI 0), .ref 642] lv_L_24 hC (zSt_ob hs 0 12 rfl).1 (zSt_ob hs 0 12 rfl).2 rfl hd (Nat.le_of_ble_eq_true rfl) rfl dL_told_4 (fun E h1 q hn => ?_) (fun r h1 q hn => ?_))
  · rcases hx E h1 q hn with ⟨rfl, z⟩
    · exact ⟨nI 1, ⟨[], [], ⟨0, 9, 12, 13⟩, rfl, (fun z hz => by cases hz), rfl, by decide, lx_13, Or.inl rfl, 3, 1, Or.inl ⟨3, rfl, rfl, dL_told_12⟩, by decide, ⟨1, dL_told_13, rfl⟩, dL_told_14⟩, z⟩
  · obtain ⟨v, rfl, z1, z2⟩ := hk r h1 q hn
    refine zJ_i2l dL_told_7 ?_
    refine zJ_last (Nat.lt_of_lt_of_le hlo'.1 hn) z1 (vp_in_nI (n := 0) (by omega) (by omega)) dL_told_8 ?_
    refine zJ_goto 15 dL_told_9 (by decide) ?_
    refine zJ_iconst dL_told_15 (v := nI 0) rfl ?_
    exact zJ_iret rfl dL_told_16 z2
theorem w_net (hl : l.stackTraces = false) (hs : zSt g) (hlo' : zLo g) {d' kc ks : Nat} (hd : d' + 1 ≤ d) {a1 a2 : Int32} {post1 post : zR → zH → Prop} (hC : zC l Xi mX12_net d' kc ks [.ref 0, .int a1, .int a2] (I, g) post1) (hx : ∀ E h1, post1 (.inr E) h1 → g.1 ≤ h1.2.1 → (E = "java/util/NoSuchElementException" ∧ post (.inl (some (.int (nI 1)))) h1) ∨ (E = "java/lang/IllegalArgumentException" ∧ post (.inl (some (.int (nI 2)))) h1))
    (hk : ∀ r h1, post1 (.inl r) h1 → g.1 ≤ h1.2.1 → ∃ v, r = some (.int v) ∧ h1.2.2.1 642 = .inr (1, 1) ∧ post (.inl (some (.int (nI 0)))) (hlo h1 v)) : zC l Xi mL_net d kc ks [.ref 0, .int a1, .int a2, .ref 642] (I, g) post := by
  refine zC_ofH hl rfl rfl rfl (Nat.le_of_ble_eq_true rfl) (zav_r (zSt_ob hs 0 12 rfl).1 (zav_i (zav_i (zav_r hlo'.1 zav_0)))) ?_
  refine zJ_aload_n dL_net_0 rfl ?_
  refine zJ_iconst dL_net_1 (v := nI 0) rfl ?_
  refine zJ_aload_n dL_net_2 rfl ?_
  refine zJ_iload_n dL_net_3 rfl ?_
  refine zJ_iload_n dL_net_4 rfl ?_
  refine zJ_wid (kc := 0 + kc) (ks := 0 + ks) (by omega) (by omega) (zJ_callVH (kc := 0) (ks := 0) [.int a1, .int a2] [.int (nI 0), .ref 642] lv_L_27 hC (zSt_ob hs 0 12 rfl).1 (zSt_ob hs 0 12 rfl).2 rfl hd (Nat.le_of_ble_eq_true rfl) rfl dL_net_5 (fun E h1 q hn => ?_) (fun r h1 q hn => ?_))
  · rcases hx E h1 q hn with ⟨rfl, z⟩ | ⟨rfl, z⟩
    · exact ⟨nI 1, ⟨[], [⟨0, 10, 17, 13⟩], ⟨0, 10, 13, 31⟩, rfl, (fun z hz => by cases hz), rfl, by decide, lx_31, Or.inr rfl, 4, 2, Or.inr ⟨rfl, dL_net_13⟩, by decide, ⟨1, dL_net_15, rfl⟩, dL_net_16⟩, z⟩
    · exact ⟨nI 2, ⟨[⟨0, 10, 13, 31⟩], [], ⟨0, 10, 17, 13⟩, rfl, (fun z hz => by rw [List.mem_singleton.mp hz]; exact ⟨by decide, _, lx_31, Or.inl ⟨rfl, rfl⟩⟩), rfl, by decide, lx_13, Or.inl rfl, 4, 2, Or.inr ⟨rfl, dL_net_17⟩, by decide, ⟨2, dL_net_19, rfl⟩, dL_net_20⟩, z⟩
  · obtain ⟨v, rfl, z1, z2⟩ := hk r h1 q hn
    refine zJ_i2l dL_net_8 ?_
    refine zJ_last (Nat.lt_of_lt_of_le hlo'.1 hn) z1 (vp_in_nI (n := 0) (by omega) (by omega)) dL_net_9 ?_
    refine zJ_goto 21 dL_net_10 (by decide) ?_
    refine zJ_iconst dL_net_21 (v := nI 0) rfl ?_
    exact zJ_iret rfl dL_net_22 z2
theorem w_place (hl : l.stackTraces = false) (hs : zSt g) (hlo' : zLo g) {d' kc ks : Nat} (hd : d' + 1 ≤ d) {a1 a2 a3 : Int32} {post1 post : zR → zH → Prop} (hC : zC l Xi mX12_place d' kc ks [.ref 0, .int a1, .int a2, .int a3] (I, g) post1) (hx : ∀ E h1, post1 (.inr E) h1 → g.1 ≤ h1.2.1 → (E = "java/util/NoSuchElementException" ∧ post (.inl (some (.int (nI 1)))) h1) ∨ (E = "java/lang/IllegalArgumentException" ∧ post (.inl (some (.int (nI 2)))) h1))
    (hk : ∀ r h1, post1 (.inl r) h1 → g.1 ≤ h1.2.1 → ∃ v, r = some (.int v) ∧ h1.2.2.1 642 = .inr (1, 1) ∧ post (.inl (some (.int (nI 0)))) (hlo h1 v)) : zC l Xi mL_place d kc ks [.ref 0, .int a1, .int a2, .int a3, .ref 642] (I, g) post := by
  refine zC_ofH hl rfl rfl rfl (Nat.le_of_ble_eq_true rfl) (zav_r (zSt_ob hs 0 12 rfl).1 (zav_i (zav_i (zav_i (zav_r hlo'.1 zav_0))))) ?_
  refine zJ_aload dL_place_0 rfl ?_
  refine zJ_iconst dL_place_2 (v := nI 0) rfl ?_
  refine zJ_aload_n dL_place_3 rfl ?_
  refine zJ_iload_n dL_place_4 rfl ?_
  refine zJ_iload_n dL_place_5 rfl ?_
  refine zJ_iload_n dL_place_6 rfl ?_
  refine zJ_wid (kc := 0 + kc) (ks := 0 + ks) (by omega) (by omega) (zJ_callVH (kc := 0) (ks := 0) [.int a1, .int a2, .int a3] [.int (nI 0), .ref 642] lv_L_33 hC (zSt_ob hs 0 12 rfl).1 (zSt_ob hs 0 12 rfl).2 rfl hd (Nat.le_of_ble_eq_true rfl) rfl dL_place_7 (fun E h1 q hn => ?_) (fun r h1 q hn => ?_))
  · rcases hx E h1 q hn with ⟨rfl, z⟩ | ⟨rfl, z⟩
    · exact ⟨nI 1, ⟨[], [⟨0, 12, 19, 13⟩], ⟨0, 12, 15, 31⟩, rfl, (fun z hz => by cases hz), rfl, by decide, lx_31, Or.inr rfl, 5, 2, Or.inr ⟨rfl, dL_place_15⟩, by decide, ⟨1, dL_place_17, rfl⟩, dL_place_18⟩, z⟩
    · exact ⟨nI 2, ⟨[⟨0, 12, 15, 31⟩], [], ⟨0, 12, 19, 13⟩, rfl, (fun z hz => by rw [List.mem_singleton.mp hz]; exact ⟨by decide, _, lx_31, Or.inl ⟨rfl, rfl⟩⟩), rfl, by decide, lx_13, Or.inl rfl, 5, 2, Or.inr ⟨rfl, dL_place_19⟩, by decide, ⟨2, dL_place_21, rfl⟩, dL_place_22⟩, z⟩
  · obtain ⟨v, rfl, z1, z2⟩ := hk r h1 q hn
    refine zJ_i2l dL_place_10 ?_
    refine zJ_last (Nat.lt_of_lt_of_le hlo'.1 hn) z1 (vp_in_nI (n := 0) (by omega) (by omega)) dL_place_11 ?_
    refine zJ_goto 23 dL_place_12 (by decide) ?_
    refine zJ_iconst dL_place_23 (v := nI 0) rfl ?_
    exact zJ_iret rfl dL_place_24 z2
theorem w_cost (hl : l.stackTraces = false) (hs : zSt g) (hlo' : zLo g) {d' kc ks : Nat} (hd : d' + 1 ≤ d) {a1 a2 a3 : Int32} {post1 post : zR → zH → Prop} (hC : zC l Xi mX12_cost d' kc ks [.ref 0, .int a1, .int a2, .int a3] (I, g) post1) (hx : ∀ E h1, post1 (.inr E) h1 → g.1 ≤ h1.2.1 → (E = "java/util/NoSuchElementException" ∧ post (.inl (some (.int (nI 1)))) h1))
    (hk : ∀ r h1, post1 (.inl r) h1 → g.1 ≤ h1.2.1 → ∃ v, r = some (.int v) ∧ h1.2.2.1 642 = .inr (1, 1) ∧ post (.inl (some (.int (nI 0)))) (hlo h1 v)) : zC l Xi mL_cost d kc ks [.ref 0, .int a1, .int a2, .int a3, .ref 642] (I, g) post := by
  refine zC_ofH hl rfl rfl rfl (Nat.le_of_ble_eq_true rfl) (zav_r (zSt_ob hs 0 12 rfl).1 (zav_i (zav_i (zav_i (zav_r hlo'.1 zav_0))))) ?_
  refine zJ_aload dL_cost_0 rfl ?_
  refine zJ_iconst dL_cost_2 (v := nI 0) rfl ?_
  refine zJ_aload_n dL_cost_3 rfl ?_
  refine zJ_iload_n dL_cost_4 rfl ?_
  refine zJ_iload_n dL_cost_5 rfl ?_
  refine zJ_iload_n dL_cost_6 rfl ?_
  refine zJ_wid (kc := 0 + kc) (ks := 0 + ks) (by omega) (by omega) (zJ_callVH (kc := 0) (ks := 0) [.int a1, .int a2, .int a3] [.int (nI 0), .ref 642] lv_L_37 hC (zSt_ob hs 0 12 rfl).1 (zSt_ob hs 0 12 rfl).2 rfl hd (Nat.le_of_ble_eq_true rfl) rfl dL_cost_7 (fun E h1 q hn => ?_) (fun r h1 q hn => ?_))
  · rcases hx E h1 q hn with ⟨rfl, z⟩
    · exact ⟨nI 1, ⟨[], [], ⟨0, 12, 15, 31⟩, rfl, (fun z hz => by cases hz), rfl, by decide, lx_31, Or.inr rfl, 5, 2, Or.inr ⟨rfl, dL_cost_15⟩, by decide, ⟨1, dL_cost_17, rfl⟩, dL_cost_18⟩, z⟩
  · obtain ⟨v, rfl, z1, z2⟩ := hk r h1 q hn
    refine zJ_i2l dL_cost_10 ?_
    refine zJ_last (Nat.lt_of_lt_of_le hlo'.1 hn) z1 (vp_in_nI (n := 0) (by omega) (by omega)) dL_cost_11 ?_
    refine zJ_goto 19 dL_cost_12 (by decide) ?_
    refine zJ_iconst dL_cost_19 (v := nI 0) rfl ?_
    exact zJ_iret rfl dL_cost_20 z2
theorem w_would (hl : l.stackTraces = false) (hs : zSt g) (hlo' : zLo g) {d' kc ks : Nat} (hd : d' + 1 ≤ d) {a1 a2 a3 a4 a5 a6 a7 a8 : Int32} {post1 post : zR → zH → Prop} (hC : zC l Xi mX12_would d' kc ks [.ref 0, .int a1, .int a2, .int a3, .int a4, .int a5, .int a6, .int a7, .int a8] (I, g) post1) (hx : ∀ E h1, post1 (.inr E) h1 → g.1 ≤ h1.2.1 → (E = "java/lang/IllegalArgumentException" ∧ post (.inl (some (.int (nI 1)))) h1))
    (hk : ∀ r h1, post1 (.inl r) h1 → g.1 ≤ h1.2.1 → ∃ v, r = some (.int v) ∧ h1.2.2.1 642 = .inr (1, 1) ∧ post (.inl (some (.int (nI 0)))) (hlo h1 v)) : zC l Xi mL_would d kc ks [.ref 0, .int a1, .int a2, .int a3, .int a4, .int a5, .int a6, .int a7, .int a8, .ref 642] (I, g) post := by
  refine zC_ofH hl rfl rfl rfl (Nat.le_of_ble_eq_true rfl) (zav_r (zSt_ob hs 0 12 rfl).1 (zav_i (zav_i (zav_i (zav_i (zav_i (zav_i (zav_i (zav_i (zav_r hlo'.1 zav_0)))))))))) ?_
  refine zJ_aload dL_would_0 rfl ?_
  refine zJ_iconst dL_would_2 (v := nI 0) rfl ?_
  refine zJ_aload_n dL_would_3 rfl ?_
  refine zJ_iload_n dL_would_4 rfl ?_
  refine zJ_iload_n dL_would_5 rfl ?_
  refine zJ_iload_n dL_would_6 rfl ?_
  refine zJ_iload dL_would_7 rfl ?_
  refine zJ_iload dL_would_9 rfl ?_
  refine zJ_iload dL_would_11 rfl ?_
  refine zJ_iload dL_would_13 rfl ?_
  refine zJ_iload dL_would_15 rfl ?_
  refine zJ_wid (kc := 0 + kc) (ks := 0 + ks) (by omega) (by omega) (zJ_callVH (kc := 0) (ks := 0) [.int a1, .int a2, .int a3, .int a4, .int a5, .int a6, .int a7, .int a8] [.int (nI 0), .ref 642] lv_L_40 hC (zSt_ob hs 0 12 rfl).1 (zSt_ob hs 0 12 rfl).2 rfl hd (Nat.le_of_ble_eq_true rfl) rfl dL_would_17 (fun E h1 q hn => ?_) (fun r h1 q hn => ?_))
  · rcases hx E h1 q hn with ⟨rfl, z⟩
    · exact ⟨nI 1, ⟨[], [], ⟨0, 22, 25, 13⟩, rfl, (fun z hz => by cases hz), rfl, by decide, lx_13, Or.inl rfl, 10, 2, Or.inr ⟨rfl, dL_would_25⟩, by decide, ⟨1, dL_would_27, rfl⟩, dL_would_28⟩, z⟩
  · obtain ⟨v, rfl, z1, z2⟩ := hk r h1 q hn
    refine zJ_i2l dL_would_20 ?_
    refine zJ_last (Nat.lt_of_lt_of_le hlo'.1 hn) z1 (vp_in_nI (n := 0) (by omega) (by omega)) dL_would_21 ?_
    refine zJ_goto 29 dL_would_22 (by decide) ?_
    refine zJ_iconst dL_would_29 (v := nI 0) rfl ?_
    exact zJ_iret rfl dL_would_30 z2
theorem w_parent (hl : l.stackTraces = false) (hs : zSt g) (hlo' : zLo g) {d' kc ks : Nat} (hd : d' + 1 ≤ d) {a1 a2 a3 : Int32} {post1 post : zR → zH → Prop} (hC : zC l Xi mX12_parent d' kc ks [.ref 0, .int a1, .int a2, .int a3] (I, g) post1) (hx : ∀ E h1, post1 (.inr E) h1 → g.1 ≤ h1.2.1 → (E = "java/util/NoSuchElementException" ∧ post (.inl (some (.int (nI 1)))) h1))
    (hk : ∀ r h1, post1 (.inl r) h1 → g.1 ≤ h1.2.1 → ∃ v, r = some (.int v) ∧ h1.2.2.1 642 = .inr (1, 1) ∧ post (.inl (some (.int (nI 0)))) (hlo h1 v)) : zC l Xi mL_parent d kc ks [.ref 0, .int a1, .int a2, .int a3, .ref 642] (I, g) post := by
  refine zC_ofH hl rfl rfl rfl (Nat.le_of_ble_eq_true rfl) (zav_r (zSt_ob hs 0 12 rfl).1 (zav_i (zav_i (zav_i (zav_r hlo'.1 zav_0))))) ?_
  refine zJ_aload dL_parent_0 rfl ?_
  refine zJ_iconst dL_parent_2 (v := nI 0) rfl ?_
  refine zJ_aload_n dL_parent_3 rfl ?_
  refine zJ_iload_n dL_parent_4 rfl ?_
  refine zJ_iload_n dL_parent_5 rfl ?_
  refine zJ_iload_n dL_parent_6 rfl ?_
  refine zJ_wid (kc := 0 + kc) (ks := 0 + ks) (by omega) (by omega) (zJ_callVH (kc := 0) (ks := 0) [.int a1, .int a2, .int a3] [.int (nI 0), .ref 642] lv_L_44 hC (zSt_ob hs 0 12 rfl).1 (zSt_ob hs 0 12 rfl).2 rfl hd (Nat.le_of_ble_eq_true rfl) rfl dL_parent_7 (fun E h1 q hn => ?_) (fun r h1 q hn => ?_))
  · rcases hx E h1 q hn with ⟨rfl, z⟩
    · exact ⟨nI 1, ⟨[], [], ⟨0, 12, 15, 31⟩, rfl, (fun z hz => by cases hz), rfl, by decide, lx_31, Or.inr rfl, 5, 2, Or.inr ⟨rfl, dL_parent_15⟩, by decide, ⟨1, dL_parent_17, rfl⟩, dL_parent_18⟩, z⟩
  · obtain ⟨v, rfl, z1, z2⟩ := hk r h1 q hn
    refine zJ_i2l dL_parent_10 ?_
    refine zJ_last (Nat.lt_of_lt_of_le hlo'.1 hn) z1 (vp_in_nI (n := 0) (by omega) (by omega)) dL_parent_11 ?_
    refine zJ_goto 19 dL_parent_12 (by decide) ?_
    refine zJ_iconst dL_parent_19 (v := nI 0) rfl ?_
    exact zJ_iret rfl dL_parent_20 z2
theorem w_dist (hl : l.stackTraces = false) (hs : zSt g) (hlo' : zLo g) {d' kc ks : Nat} (hd : d' + 1 ≤ d) {a1 a2 a3 : Int32} {post1 post : zR → zH → Prop} (hC : zC l Xi mX12_dist d' kc ks [.ref 0, .int a1, .int a2, .int a3] (I, g) post1) (hx : ∀ E h1, post1 (.inr E) h1 → g.1 ≤ h1.2.1 → (E = "java/util/NoSuchElementException" ∧ post (.inl (some (.int (nI 1)))) h1))
    (hk : ∀ r h1, post1 (.inl r) h1 → g.1 ≤ h1.2.1 → ∃ v, r = some (.int v) ∧ h1.2.2.1 642 = .inr (1, 1) ∧ post (.inl (some (.int (nI 0)))) (hlo h1 v)) : zC l Xi mL_dist d kc ks [.ref 0, .int a1, .int a2, .int a3, .ref 642] (I, g) post := by
  refine zC_ofH hl rfl rfl rfl (Nat.le_of_ble_eq_true rfl) (zav_r (zSt_ob hs 0 12 rfl).1 (zav_i (zav_i (zav_i (zav_r hlo'.1 zav_0))))) ?_
  refine zJ_aload dL_dist_0 rfl ?_
  refine zJ_iconst dL_dist_2 (v := nI 0) rfl ?_
  refine zJ_aload_n dL_dist_3 rfl ?_
  refine zJ_iload_n dL_dist_4 rfl ?_
  refine zJ_iload_n dL_dist_5 rfl ?_
  refine zJ_iload_n dL_dist_6 rfl ?_
  refine zJ_wid (kc := 0 + kc) (ks := 0 + ks) (by omega) (by omega) (zJ_callVH (kc := 0) (ks := 0) [.int a1, .int a2, .int a3] [.int (nI 0), .ref 642] lv_L_47 hC (zSt_ob hs 0 12 rfl).1 (zSt_ob hs 0 12 rfl).2 rfl hd (Nat.le_of_ble_eq_true rfl) rfl dL_dist_7 (fun E h1 q hn => ?_) (fun r h1 q hn => ?_))
  · rcases hx E h1 q hn with ⟨rfl, z⟩
    · exact ⟨nI 1, ⟨[], [], ⟨0, 12, 15, 31⟩, rfl, (fun z hz => by cases hz), rfl, by decide, lx_31, Or.inr rfl, 5, 2, Or.inr ⟨rfl, dL_dist_15⟩, by decide, ⟨1, dL_dist_17, rfl⟩, dL_dist_18⟩, z⟩
  · obtain ⟨v, rfl, z1, z2⟩ := hk r h1 q hn
    refine zJ_i2l dL_dist_10 ?_
    refine zJ_last (Nat.lt_of_lt_of_le hlo'.1 hn) z1 (vp_in_nI (n := 0) (by omega) (by omega)) dL_dist_11 ?_
    refine zJ_goto 19 dL_dist_12 (by decide) ?_
    refine zJ_iconst dL_dist_19 (v := nI 0) rfl ?_
    exact zJ_iret rfl dL_dist_20 z2
theorem w_spared (hl : l.stackTraces = false) (hs : zSt g) (hlo' : zLo g) {d' kc ks : Nat} (hd : d' + 1 ≤ d) {a1 a2 a3 : Int32} {post1 post : zR → zH → Prop} (hC : zC l Xi mX12_spared d' kc ks [.ref 0, .int a1, .int a2, .int a3] (I, g) post1) (hx : ∀ E h1, post1 (.inr E) h1 → g.1 ≤ h1.2.1 → (E = "java/util/NoSuchElementException" ∧ post (.inl (some (.int (nI 1)))) h1))
    (hk : ∀ r h1, post1 (.inl r) h1 → g.1 ≤ h1.2.1 → ∃ v, r = some (.int v) ∧ h1.2.2.1 642 = .inr (1, 1) ∧ post (.inl (some (.int (nI 0)))) (hlo h1 v)) : zC l Xi mL_spared d kc ks [.ref 0, .int a1, .int a2, .int a3, .ref 642] (I, g) post := by
  refine zC_ofH hl rfl rfl rfl (Nat.le_of_ble_eq_true rfl) (zav_r (zSt_ob hs 0 12 rfl).1 (zav_i (zav_i (zav_i (zav_r hlo'.1 zav_0))))) ?_
  refine zJ_aload dL_spared_0 rfl ?_
  refine zJ_iconst dL_spared_2 (v := nI 0) rfl ?_
  refine zJ_aload_n dL_spared_3 rfl ?_
  refine zJ_iload_n dL_spared_4 rfl ?_
  refine zJ_iload_n dL_spared_5 rfl ?_
  refine zJ_iload_n dL_spared_6 rfl ?_
  refine zJ_wid (kc := 0 + kc) (ks := 0 + ks) (by omega) (by omega) (zJ_callVH (kc := 0) (ks := 0) [.int a1, .int a2, .int a3] [.int (nI 0), .ref 642] lv_L_50 hC (zSt_ob hs 0 12 rfl).1 (zSt_ob hs 0 12 rfl).2 rfl hd (Nat.le_of_ble_eq_true rfl) rfl dL_spared_7 (fun E h1 q hn => ?_) (fun r h1 q hn => ?_))
  · rcases hx E h1 q hn with ⟨rfl, z⟩
    · exact ⟨nI 1, ⟨[], [], ⟨0, 12, 15, 31⟩, rfl, (fun z hz => by cases hz), rfl, by decide, lx_31, Or.inr rfl, 5, 2, Or.inr ⟨rfl, dL_spared_15⟩, by decide, ⟨1, dL_spared_17, rfl⟩, dL_spared_18⟩, z⟩
  · obtain ⟨v, rfl, z1, z2⟩ := hk r h1 q hn
    refine zJ_i2l dL_spared_10 ?_
    refine zJ_last (Nat.lt_of_lt_of_le hlo'.1 hn) z1 (vp_in_nI (n := 0) (by omega) (by omega)) dL_spared_11 ?_
    refine zJ_goto 19 dL_spared_12 (by decide) ?_
    refine zJ_iconst dL_spared_19 (v := nI 0) rfl ?_
    exact zJ_iret rfl dL_spared_20 z2
theorem w_jam (hl : l.stackTraces = false) (hs : zSt g) (hlo' : zLo g) {d' kc ks : Nat} (hd : d' + 1 ≤ d) {a1 : Int32} {post1 post : zR → zH → Prop} (hC : zC l Xi mX12_jam d' kc ks [.ref 0, .int a1] (I, g) post1) (hx : ∀ E h1, post1 (.inr E) h1 → g.1 ≤ h1.2.1 → (E = "java/util/NoSuchElementException" ∧ post (.inl (some (.int (nI 1)))) h1))
    (hk : ∀ r h1, post1 (.inl r) h1 → g.1 ≤ h1.2.1 → ∃ v, r = some (.int v) ∧ h1.2.2.1 642 = .inr (1, 1) ∧ post (.inl (some (.int (nI 0)))) (hlo h1 v)) : zC l Xi mL_jam d kc ks [.ref 0, .int a1, .ref 642] (I, g) post := by
  refine zC_ofH hl rfl rfl rfl (Nat.le_of_ble_eq_true rfl) (zav_r (zSt_ob hs 0 12 rfl).1 (zav_i (zav_r hlo'.1 zav_0))) ?_
  refine zJ_aload_n dL_jam_0 rfl ?_
  refine zJ_iconst dL_jam_1 (v := nI 0) rfl ?_
  refine zJ_aload_n dL_jam_2 rfl ?_
  refine zJ_iload_n dL_jam_3 rfl ?_
  refine zJ_wid (kc := 0 + kc) (ks := 0 + ks) (by omega) (by omega) (zJ_callVH (kc := 0) (ks := 0) [.int a1] [.int (nI 0), .ref 642] lv_L_53 hC (zSt_ob hs 0 12 rfl).1 (zSt_ob hs 0 12 rfl).2 rfl hd (Nat.le_of_ble_eq_true rfl) rfl dL_jam_4 (fun E h1 q hn => ?_) (fun r h1 q hn => ?_))
  · rcases hx E h1 q hn with ⟨rfl, z⟩
    · exact ⟨nI 1, ⟨[], [], ⟨0, 9, 12, 31⟩, rfl, (fun z hz => by cases hz), rfl, by decide, lx_31, Or.inr rfl, 3, 1, Or.inl ⟨3, rfl, rfl, dL_jam_12⟩, by decide, ⟨1, dL_jam_13, rfl⟩, dL_jam_14⟩, z⟩
  · obtain ⟨v, rfl, z1, z2⟩ := hk r h1 q hn
    refine zJ_i2l dL_jam_7 ?_
    refine zJ_last (Nat.lt_of_lt_of_le hlo'.1 hn) z1 (vp_in_nI (n := 0) (by omega) (by omega)) dL_jam_8 ?_
    refine zJ_goto 15 dL_jam_9 (by decide) ?_
    refine zJ_iconst dL_jam_15 (v := nI 0) rfl ?_
    exact zJ_iret rfl dL_jam_16 z2
theorem w_ahead (hl : l.stackTraces = false) (hs : zSt g) (hlo' : zLo g) {d' kc ks : Nat} (hd : d' + 1 ≤ d) {a1 a2 : Int32} {post1 post : zR → zH → Prop} (hC : zC l Xi mX12_ahead d' kc ks [.ref 0, .int a1, .int a2] (I, g) post1) (hx : ∀ E h1, post1 (.inr E) h1 → g.1 ≤ h1.2.1 → (E = "java/lang/IllegalArgumentException" ∧ post (.inl (some (.int (nI 1)))) h1))
    (hk : ∀ r h1, post1 (.inl r) h1 → g.1 ≤ h1.2.1 → ∃ v, r = some (.int v) ∧ h1.2.2.1 642 = .inr (1, 1) ∧ post (.inl (some (.int (nI 0)))) (hlo h1 v)) : zC l Xi mL_ahead d kc ks [.ref 0, .int a1, .int a2, .ref 642] (I, g) post := by
  refine zC_ofH hl rfl rfl rfl (Nat.le_of_ble_eq_true rfl) (zav_r (zSt_ob hs 0 12 rfl).1 (zav_i (zav_i (zav_r hlo'.1 zav_0)))) ?_
  refine zJ_aload_n dL_ahead_0 rfl ?_
  refine zJ_iconst dL_ahead_1 (v := nI 0) rfl ?_
  refine zJ_aload_n dL_ahead_2 rfl ?_
  refine zJ_iload_n dL_ahead_3 rfl ?_
  refine zJ_iload_n dL_ahead_4 rfl ?_
  refine zJ_wid (kc := 0 + kc) (ks := 0 + ks) (by omega) (by omega) (zJ_callVH (kc := 0) (ks := 0) [.int a1, .int a2] [.int (nI 0), .ref 642] lv_L_56 hC (zSt_ob hs 0 12 rfl).1 (zSt_ob hs 0 12 rfl).2 rfl hd (Nat.le_of_ble_eq_true rfl) rfl dL_ahead_5 (fun E h1 q hn => ?_) (fun r h1 q hn => ?_))
  · rcases hx E h1 q hn with ⟨rfl, z⟩
    · exact ⟨nI 1, ⟨[], [], ⟨0, 10, 13, 13⟩, rfl, (fun z hz => by cases hz), rfl, by decide, lx_13, Or.inl rfl, 4, 2, Or.inr ⟨rfl, dL_ahead_13⟩, by decide, ⟨1, dL_ahead_15, rfl⟩, dL_ahead_16⟩, z⟩
  · obtain ⟨v, rfl, z1, z2⟩ := hk r h1 q hn
    refine zJ_i2l dL_ahead_8 ?_
    refine zJ_last (Nat.lt_of_lt_of_le hlo'.1 hn) z1 (vp_in_nI (n := 0) (by omega) (by omega)) dL_ahead_9 ?_
    refine zJ_goto 17 dL_ahead_10 (by decide) ?_
    refine zJ_iconst dL_ahead_17 (v := nI 0) rfl ?_
    exact zJ_iret rfl dL_ahead_18 z2
theorem w_fewest (hl : l.stackTraces = false) (hs : zSt g) (hlo' : zLo g) {d' kc ks : Nat} (hd : d' + 1 ≤ d) {a1 : Int32} {post1 post : zR → zH → Prop} (hC : zC l Xi mX12_fewest d' kc ks [.ref 0, .int a1] (I, g) post1) (hx : ∀ E h1, post1 (.inr E) h1 → g.1 ≤ h1.2.1 → (E = "java/util/NoSuchElementException" ∧ post (.inl (some (.int (nI 1)))) h1))
    (hk : ∀ r h1, post1 (.inl r) h1 → g.1 ≤ h1.2.1 → ∃ v, r = some (.int v) ∧ h1.2.2.1 642 = .inr (1, 1) ∧ post (.inl (some (.int (nI 0)))) (hlo h1 v)) : zC l Xi mL_fewest d kc ks [.ref 0, .int a1, .ref 642] (I, g) post := by
  refine zC_ofH hl rfl rfl rfl (Nat.le_of_ble_eq_true rfl) (zav_r (zSt_ob hs 0 12 rfl).1 (zav_i (zav_r hlo'.1 zav_0))) ?_
  refine zJ_aload_n dL_fewest_0 rfl ?_
  refine zJ_iconst dL_fewest_1 (v := nI 0) rfl ?_
  refine zJ_aload_n dL_fewest_2 rfl ?_
  refine zJ_iload_n dL_fewest_3 rfl ?_
  refine zJ_wid (kc := 0 + kc) (ks := 0 + ks) (by omega) (by omega) (zJ_callVH (kc := 0) (ks := 0) [.int a1] [.int (nI 0), .ref 642] lv_L_59 hC (zSt_ob hs 0 12 rfl).1 (zSt_ob hs 0 12 rfl).2 rfl hd (Nat.le_of_ble_eq_true rfl) rfl dL_fewest_4 (fun E h1 q hn => ?_) (fun r h1 q hn => ?_))
  · rcases hx E h1 q hn with ⟨rfl, z⟩
    · exact ⟨nI 1, ⟨[], [], ⟨0, 9, 12, 31⟩, rfl, (fun z hz => by cases hz), rfl, by decide, lx_31, Or.inr rfl, 3, 1, Or.inl ⟨3, rfl, rfl, dL_fewest_12⟩, by decide, ⟨1, dL_fewest_13, rfl⟩, dL_fewest_14⟩, z⟩
  · obtain ⟨v, rfl, z1, z2⟩ := hk r h1 q hn
    refine zJ_i2l dL_fewest_7 ?_
    refine zJ_last (Nat.lt_of_lt_of_le hlo'.1 hn) z1 (vp_in_nI (n := 0) (by omega) (by omega)) dL_fewest_8 ?_
    refine zJ_goto 15 dL_fewest_9 (by decide) ?_
    refine zJ_iconst dL_fewest_15 (v := nI 0) rfl ?_
    exact zJ_iret rfl dL_fewest_16 z2
theorem w_tree (hl : l.stackTraces = false) (hs : zSt g) (hlo' : zLo g) {d' kc ks : Nat} (hd : d' + 1 ≤ d) {a1 a2 : Int32} {post1 post : zR → zH → Prop} (hC : zC l Xi mX12_tree d' kc ks [.ref 0, .int a1, .int a2] (I, g) post1) (hx : ∀ E h1, post1 (.inr E) h1 → g.1 ≤ h1.2.1 → (E = "java/util/NoSuchElementException" ∧ post (.inl (some (.int (nI 1)))) h1))
    (hk : ∀ r h1, post1 (.inl r) h1 → g.1 ≤ h1.2.1 → ∃ v, r = some (.int v) ∧ h1.2.2.1 642 = .inr (1, 1) ∧ post (.inl (some (.int (nI 0)))) (hlo h1 v)) : zC l Xi mL_tree d kc ks [.ref 0, .int a1, .int a2, .ref 642] (I, g) post := by
  refine zC_ofH hl rfl rfl rfl (Nat.le_of_ble_eq_true rfl) (zav_r (zSt_ob hs 0 12 rfl).1 (zav_i (zav_i (zav_r hlo'.1 zav_0)))) ?_
  refine zJ_aload_n dL_tree_0 rfl ?_
  refine zJ_iconst dL_tree_1 (v := nI 0) rfl ?_
  refine zJ_aload_n dL_tree_2 rfl ?_
  refine zJ_iload_n dL_tree_3 rfl ?_
  refine zJ_iload_n dL_tree_4 rfl ?_
  refine zJ_wid (kc := 0 + kc) (ks := 0 + ks) (by omega) (by omega) (zJ_callVH (kc := 0) (ks := 0) [.int a1, .int a2] [.int (nI 0), .ref 642] lv_L_62 hC (zSt_ob hs 0 12 rfl).1 (zSt_ob hs 0 12 rfl).2 rfl hd (Nat.le_of_ble_eq_true rfl) rfl dL_tree_5 (fun E h1 q hn => ?_) (fun r h1 q hn => ?_))
  · rcases hx E h1 q hn with ⟨rfl, z⟩
    · exact ⟨nI 1, ⟨[], [], ⟨0, 10, 13, 31⟩, rfl, (fun z hz => by cases hz), rfl, by decide, lx_31, Or.inr rfl, 4, 2, Or.inr ⟨rfl, dL_tree_13⟩, by decide, ⟨1, dL_tree_15, rfl⟩, dL_tree_16⟩, z⟩
  · obtain ⟨v, rfl, z1, z2⟩ := hk r h1 q hn
    refine zJ_i2l dL_tree_8 ?_
    refine zJ_last (Nat.lt_of_lt_of_le hlo'.1 hn) z1 (vp_in_nI (n := 0) (by omega) (by omega)) dL_tree_9 ?_
    refine zJ_goto 17 dL_tree_10 (by decide) ?_
    refine zJ_iconst dL_tree_17 (v := nI 0) rfl ?_
    exact zJ_iret rfl dL_tree_18 z2
theorem w_meet (hl : l.stackTraces = false) (hs : zSt g) (hlo' : zLo g) {d' kc ks : Nat} (hd : d' + 1 ≤ d) {a1 a2 : Int32} {post1 post : zR → zH → Prop} (hC : zC l Xi mX12_meet d' kc ks [.ref 0, .int a1, .int a2] (I, g) post1) (hx : ∀ E h1, post1 (.inr E) h1 → g.1 ≤ h1.2.1 → (E = "java/util/NoSuchElementException" ∧ post (.inl (some (.int (nI 1)))) h1))
    (hk : ∀ r h1, post1 (.inl r) h1 → g.1 ≤ h1.2.1 → ∃ v, r = some (.int v) ∧ h1.2.2.1 642 = .inr (1, 1) ∧ post (.inl (some (.int (nI 0)))) (hlo h1 v)) : zC l Xi mL_meet d kc ks [.ref 0, .int a1, .int a2, .ref 642] (I, g) post := by
  refine zC_ofH hl rfl rfl rfl (Nat.le_of_ble_eq_true rfl) (zav_r (zSt_ob hs 0 12 rfl).1 (zav_i (zav_i (zav_r hlo'.1 zav_0)))) ?_
  refine zJ_aload_n dL_meet_0 rfl ?_
  refine zJ_iconst dL_meet_1 (v := nI 0) rfl ?_
  refine zJ_aload_n dL_meet_2 rfl ?_
  refine zJ_iload_n dL_meet_3 rfl ?_
  refine zJ_iload_n dL_meet_4 rfl ?_
  refine zJ_wid (kc := 0 + kc) (ks := 0 + ks) (by omega) (by omega) (zJ_callVH (kc := 0) (ks := 0) [.int a1, .int a2] [.int (nI 0), .ref 642] lv_L_65 hC (zSt_ob hs 0 12 rfl).1 (zSt_ob hs 0 12 rfl).2 rfl hd (Nat.le_of_ble_eq_true rfl) rfl dL_meet_5 (fun E h1 q hn => ?_) (fun r h1 q hn => ?_))
  · rcases hx E h1 q hn with ⟨rfl, z⟩
    · exact ⟨nI 1, ⟨[], [], ⟨0, 10, 13, 31⟩, rfl, (fun z hz => by cases hz), rfl, by decide, lx_31, Or.inr rfl, 4, 2, Or.inr ⟨rfl, dL_meet_13⟩, by decide, ⟨1, dL_meet_15, rfl⟩, dL_meet_16⟩, z⟩
  · obtain ⟨v, rfl, z1, z2⟩ := hk r h1 q hn
    refine zJ_i2l dL_meet_8 ?_
    refine zJ_last (Nat.lt_of_lt_of_le hlo'.1 hn) z1 (vp_in_nI (n := 0) (by omega) (by omega)) dL_meet_9 ?_
    refine zJ_goto 17 dL_meet_10 (by decide) ?_
    refine zJ_iconst dL_meet_17 (v := nI 0) rfl ?_
    exact zJ_iret rfl dL_meet_18 z2
theorem w_dear (hl : l.stackTraces = false) (hs : zSt g) (hlo' : zLo g) {d' kc ks : Nat} (hd : d' + 1 ≤ d) {a1 : Int32} {post1 post : zR → zH → Prop} (hC : zC l Xi mX12_dear d' kc ks [.ref 0, .int a1] (I, g) post1) (hx : ∀ E h1, post1 (.inr E) h1 → g.1 ≤ h1.2.1 → (E = "java/util/NoSuchElementException" ∧ post (.inl (some (.int (nI 1)))) h1))
    (hk : ∀ r h1, post1 (.inl r) h1 → g.1 ≤ h1.2.1 → ∃ v, r = some (.int v) ∧ h1.2.2.1 642 = .inr (1, 1) ∧ post (.inl (some (.int (nI 0)))) (hlo h1 v)) : zC l Xi mL_dear d kc ks [.ref 0, .int a1, .ref 642] (I, g) post := by
  refine zC_ofH hl rfl rfl rfl (Nat.le_of_ble_eq_true rfl) (zav_r (zSt_ob hs 0 12 rfl).1 (zav_i (zav_r hlo'.1 zav_0))) ?_
  refine zJ_aload_n dL_dear_0 rfl ?_
  refine zJ_iconst dL_dear_1 (v := nI 0) rfl ?_
  refine zJ_aload_n dL_dear_2 rfl ?_
  refine zJ_iload_n dL_dear_3 rfl ?_
  refine zJ_wid (kc := 0 + kc) (ks := 0 + ks) (by omega) (by omega) (zJ_callVH (kc := 0) (ks := 0) [.int a1] [.int (nI 0), .ref 642] lv_L_68 hC (zSt_ob hs 0 12 rfl).1 (zSt_ob hs 0 12 rfl).2 rfl hd (Nat.le_of_ble_eq_true rfl) rfl dL_dear_4 (fun E h1 q hn => ?_) (fun r h1 q hn => ?_))
  · rcases hx E h1 q hn with ⟨rfl, z⟩
    · exact ⟨nI 1, ⟨[], [], ⟨0, 9, 12, 31⟩, rfl, (fun z hz => by cases hz), rfl, by decide, lx_31, Or.inr rfl, 3, 1, Or.inl ⟨3, rfl, rfl, dL_dear_12⟩, by decide, ⟨1, dL_dear_13, rfl⟩, dL_dear_14⟩, z⟩
  · obtain ⟨v, rfl, z1, z2⟩ := hk r h1 q hn
    refine zJ_i2l dL_dear_7 ?_
    refine zJ_last (Nat.lt_of_lt_of_le hlo'.1 hn) z1 (vp_in_nI (n := 0) (by omega) (by omega)) dL_dear_8 ?_
    refine zJ_goto 15 dL_dear_9 (by decide) ?_
    refine zJ_iconst dL_dear_15 (v := nI 0) rfl ?_
    exact zJ_iret rfl dL_dear_16 z2
theorem w_shed (hl : l.stackTraces = false) (hs : zSt g) (hlo' : zLo g) {d' kc ks : Nat} (hd : d' + 1 ≤ d) {a1 : Int32} {post1 post : zR → zH → Prop} (hC : zC l Xi mX12_shed d' kc ks [.ref 0, .int a1] (I, g) post1) (hx : ∀ E h1, post1 (.inr E) h1 → g.1 ≤ h1.2.1 → (E = "java/util/NoSuchElementException" ∧ post (.inl (some (.int (nI 1)))) h1))
    (hk : ∀ r h1, post1 (.inl r) h1 → g.1 ≤ h1.2.1 → ∃ v, r = some (.int v) ∧ h1.2.2.1 642 = .inr (1, 1) ∧ post (.inl (some (.int (nI 0)))) (hlo h1 v)) : zC l Xi mL_shed d kc ks [.ref 0, .int a1, .ref 642] (I, g) post := by
  refine zC_ofH hl rfl rfl rfl (Nat.le_of_ble_eq_true rfl) (zav_r (zSt_ob hs 0 12 rfl).1 (zav_i (zav_r hlo'.1 zav_0))) ?_
  refine zJ_aload_n dL_shed_0 rfl ?_
  refine zJ_iconst dL_shed_1 (v := nI 0) rfl ?_
  refine zJ_aload_n dL_shed_2 rfl ?_
  refine zJ_iload_n dL_shed_3 rfl ?_
  refine zJ_wid (kc := 0 + kc) (ks := 0 + ks) (by omega) (by omega) (zJ_callVH (kc := 0) (ks := 0) [.int a1] [.int (nI 0), .ref 642] lv_L_71 hC (zSt_ob hs 0 12 rfl).1 (zSt_ob hs 0 12 rfl).2 rfl hd (Nat.le_of_ble_eq_true rfl) rfl dL_shed_4 (fun E h1 q hn => ?_) (fun r h1 q hn => ?_))
  · rcases hx E h1 q hn with ⟨rfl, z⟩
    · exact ⟨nI 1, ⟨[], [], ⟨0, 9, 12, 31⟩, rfl, (fun z hz => by cases hz), rfl, by decide, lx_31, Or.inr rfl, 3, 1, Or.inl ⟨3, rfl, rfl, dL_shed_12⟩, by decide, ⟨1, dL_shed_13, rfl⟩, dL_shed_14⟩, z⟩
  · obtain ⟨v, rfl, z1, z2⟩ := hk r h1 q hn
    refine zJ_i2l dL_shed_7 ?_
    refine zJ_last (Nat.lt_of_lt_of_le hlo'.1 hn) z1 (vp_in_nI (n := 0) (by omega) (by omega)) dL_shed_8 ?_
    refine zJ_goto 15 dL_shed_9 (by decide) ?_
    refine zJ_iconst dL_shed_15 (v := nI 0) rfl ?_
    exact zJ_iret rfl dL_shed_16 z2
theorem w_fits (hl : l.stackTraces = false) (hs : zSt g) (hlo' : zLo g) {d' kc ks : Nat} (hd : d' + 1 ≤ d) {a1 : Int32} {post1 post : zR → zH → Prop} (hC : zC l Xi mX12_fits d' kc ks [.ref 0, .int a1] (I, g) post1) (hx : ∀ E h1, post1 (.inr E) h1 → g.1 ≤ h1.2.1 → (E = "java/lang/IllegalArgumentException" ∧ post (.inl (some (.int (nI 1)))) h1))
    (hk : ∀ r h1, post1 (.inl r) h1 → g.1 ≤ h1.2.1 → ∃ v, r = some (.int v) ∧ h1.2.2.1 642 = .inr (1, 1) ∧ post (.inl (some (.int (nI 0)))) (hlo h1 v)) : zC l Xi mL_fits d kc ks [.ref 0, .int a1, .ref 642] (I, g) post := by
  refine zC_ofH hl rfl rfl rfl (Nat.le_of_ble_eq_true rfl) (zav_r (zSt_ob hs 0 12 rfl).1 (zav_i (zav_r hlo'.1 zav_0))) ?_
  refine zJ_aload_n dL_fits_0 rfl ?_
  refine zJ_iconst dL_fits_1 (v := nI 0) rfl ?_
  refine zJ_aload_n dL_fits_2 rfl ?_
  refine zJ_iload_n dL_fits_3 rfl ?_
  refine zJ_wid (kc := 0 + kc) (ks := 0 + ks) (by omega) (by omega) (zJ_callVH (kc := 0) (ks := 0) [.int a1] [.int (nI 0), .ref 642] lv_L_74 hC (zSt_ob hs 0 12 rfl).1 (zSt_ob hs 0 12 rfl).2 rfl hd (Nat.le_of_ble_eq_true rfl) rfl dL_fits_4 (fun E h1 q hn => ?_) (fun r h1 q hn => ?_))
  · rcases hx E h1 q hn with ⟨rfl, z⟩
    · exact ⟨nI 1, ⟨[], [], ⟨0, 9, 12, 13⟩, rfl, (fun z hz => by cases hz), rfl, by decide, lx_13, Or.inl rfl, 3, 1, Or.inl ⟨3, rfl, rfl, dL_fits_12⟩, by decide, ⟨1, dL_fits_13, rfl⟩, dL_fits_14⟩, z⟩
  · obtain ⟨v, rfl, z1, z2⟩ := hk r h1 q hn
    refine zJ_i2l dL_fits_7 ?_
    refine zJ_last (Nat.lt_of_lt_of_le hlo'.1 hn) z1 (vp_in_nI (n := 0) (by omega) (by omega)) dL_fits_8 ?_
    refine zJ_goto 15 dL_fits_9 (by decide) ?_
    refine zJ_iconst dL_fits_15 (v := nI 0) rfl ?_
    exact zJ_iret rfl dL_fits_16 z2
theorem w_look (hl : l.stackTraces = false) (hs : zSt g) (hlo' : zLo g) {d' kc ks : Nat} (hd : d' + 1 ≤ d) {a1 : Int32} {post1 post : zR → zH → Prop} (hC : zC l Xi mX12_look d' kc ks [.ref 0, .int a1] (I, g) post1) (hx : ∀ E h1, post1 (.inr E) h1 → g.1 ≤ h1.2.1 → (E = "java/lang/IllegalArgumentException" ∧ post (.inl (some (.int (nI 1)))) h1))
    (hk : ∀ r h1, post1 (.inl r) h1 → g.1 ≤ h1.2.1 → ∃ v, r = some (.int v) ∧ h1.2.2.1 642 = .inr (1, 1) ∧ post (.inl (some (.int (nI 0)))) (hlo h1 v)) : zC l Xi mL_look d kc ks [.ref 0, .int a1, .ref 642] (I, g) post := by
  refine zC_ofH hl rfl rfl rfl (Nat.le_of_ble_eq_true rfl) (zav_r (zSt_ob hs 0 12 rfl).1 (zav_i (zav_r hlo'.1 zav_0))) ?_
  refine zJ_aload_n dL_look_0 rfl ?_
  refine zJ_iconst dL_look_1 (v := nI 0) rfl ?_
  refine zJ_aload_n dL_look_2 rfl ?_
  refine zJ_iload_n dL_look_3 rfl ?_
  refine zJ_wid (kc := 0 + kc) (ks := 0 + ks) (by omega) (by omega) (zJ_callVH (kc := 0) (ks := 0) [.int a1] [.int (nI 0), .ref 642] lv_L_77 hC (zSt_ob hs 0 12 rfl).1 (zSt_ob hs 0 12 rfl).2 rfl hd (Nat.le_of_ble_eq_true rfl) rfl dL_look_4 (fun E h1 q hn => ?_) (fun r h1 q hn => ?_))
  · rcases hx E h1 q hn with ⟨rfl, z⟩
    · exact ⟨nI 1, ⟨[], [], ⟨0, 9, 12, 13⟩, rfl, (fun z hz => by cases hz), rfl, by decide, lx_13, Or.inl rfl, 3, 1, Or.inl ⟨3, rfl, rfl, dL_look_12⟩, by decide, ⟨1, dL_look_13, rfl⟩, dL_look_14⟩, z⟩
  · obtain ⟨v, rfl, z1, z2⟩ := hk r h1 q hn
    refine zJ_i2l dL_look_7 ?_
    refine zJ_last (Nat.lt_of_lt_of_le hlo'.1 hn) z1 (vp_in_nI (n := 0) (by omega) (by omega)) dL_look_8 ?_
    refine zJ_goto 15 dL_look_9 (by decide) ?_
    refine zJ_iconst dL_look_15 (v := nI 0) rfl ?_
    exact zJ_iret rfl dL_look_16 z2
theorem w_crowd (hl : l.stackTraces = false) (hs : zSt g) (hlo' : zLo g) {d' kc ks : Nat} (hd : d' + 1 ≤ d) {a1 : Int32} {post1 post : zR → zH → Prop} (hC : zC l Xi mX12_crowd d' kc ks [.ref 0, .int a1] (I, g) post1) (hx : ∀ E h1, post1 (.inr E) h1 → g.1 ≤ h1.2.1 → (E = "java/lang/IllegalArgumentException" ∧ post (.inl (some (.int (nI 1)))) h1))
    (hk : ∀ r h1, post1 (.inl r) h1 → g.1 ≤ h1.2.1 → ∃ v, r = some (.int v) ∧ h1.2.2.1 642 = .inr (1, 1) ∧ post (.inl (some (.int (nI 0)))) (hlo h1 v)) : zC l Xi mL_crowd d kc ks [.ref 0, .int a1, .ref 642] (I, g) post := by
  refine zC_ofH hl rfl rfl rfl (Nat.le_of_ble_eq_true rfl) (zav_r (zSt_ob hs 0 12 rfl).1 (zav_i (zav_r hlo'.1 zav_0))) ?_
  refine zJ_aload_n dL_crowd_0 rfl ?_
  refine zJ_iconst dL_crowd_1 (v := nI 0) rfl ?_
  refine zJ_aload_n dL_crowd_2 rfl ?_
  refine zJ_iload_n dL_crowd_3 rfl ?_
  refine zJ_wid (kc := 0 + kc) (ks := 0 + ks) (by omega) (by omega) (zJ_callVH (kc := 0) (ks := 0) [.int a1] [.int (nI 0), .ref 642] lv_L_80 hC (zSt_ob hs 0 12 rfl).1 (zSt_ob hs 0 12 rfl).2 rfl hd (Nat.le_of_ble_eq_true rfl) rfl dL_crowd_4 (fun E h1 q hn => ?_) (fun r h1 q hn => ?_))
  · rcases hx E h1 q hn with ⟨rfl, z⟩
    · exact ⟨nI 1, ⟨[], [], ⟨0, 9, 12, 13⟩, rfl, (fun z hz => by cases hz), rfl, by decide, lx_13, Or.inl rfl, 3, 1, Or.inl ⟨3, rfl, rfl, dL_crowd_12⟩, by decide, ⟨1, dL_crowd_13, rfl⟩, dL_crowd_14⟩, z⟩
  · obtain ⟨v, rfl, z1, z2⟩ := hk r h1 q hn
    refine zJ_i2l dL_crowd_7 ?_
    refine zJ_last (Nat.lt_of_lt_of_le hlo'.1 hn) z1 (vp_in_nI (n := 0) (by omega) (by omega)) dL_crowd_8 ?_
    refine zJ_goto 15 dL_crowd_9 (by decide) ?_
    refine zJ_iconst dL_crowd_15 (v := nI 0) rfl ?_
    exact zJ_iret rfl dL_crowd_16 z2
theorem w_tight (hl : l.stackTraces = false) (hs : zSt g) (hlo' : zLo g) {d' kc ks : Nat} (hd : d' + 1 ≤ d) {a1 : Int32} {post1 post : zR → zH → Prop} (hC : zC l Xi mX12_tight d' kc ks [.ref 0, .int a1] (I, g) post1) (hx : ∀ E h1, post1 (.inr E) h1 → g.1 ≤ h1.2.1 → (E = "java/lang/IllegalArgumentException" ∧ post (.inl (some (.int (nI 1)))) h1))
    (hk : ∀ r h1, post1 (.inl r) h1 → g.1 ≤ h1.2.1 → ∃ v, r = some (.int v) ∧ h1.2.2.1 642 = .inr (1, 1) ∧ post (.inl (some (.int (nI 0)))) (hlo h1 v)) : zC l Xi mL_tight d kc ks [.ref 0, .int a1, .ref 642] (I, g) post := by
  refine zC_ofH hl rfl rfl rfl (Nat.le_of_ble_eq_true rfl) (zav_r (zSt_ob hs 0 12 rfl).1 (zav_i (zav_r hlo'.1 zav_0))) ?_
  refine zJ_aload_n dL_tight_0 rfl ?_
  refine zJ_iconst dL_tight_1 (v := nI 0) rfl ?_
  refine zJ_aload_n dL_tight_2 rfl ?_
  refine zJ_iload_n dL_tight_3 rfl ?_
  refine zJ_wid (kc := 0 + kc) (ks := 0 + ks) (by omega) (by omega) (zJ_callVH (kc := 0) (ks := 0) [.int a1] [.int (nI 0), .ref 642] lv_L_83 hC (zSt_ob hs 0 12 rfl).1 (zSt_ob hs 0 12 rfl).2 rfl hd (Nat.le_of_ble_eq_true rfl) rfl dL_tight_4 (fun E h1 q hn => ?_) (fun r h1 q hn => ?_))
  · rcases hx E h1 q hn with ⟨rfl, z⟩
    · exact ⟨nI 1, ⟨[], [], ⟨0, 9, 12, 13⟩, rfl, (fun z hz => by cases hz), rfl, by decide, lx_13, Or.inl rfl, 3, 1, Or.inl ⟨3, rfl, rfl, dL_tight_12⟩, by decide, ⟨1, dL_tight_13, rfl⟩, dL_tight_14⟩, z⟩
  · obtain ⟨v, rfl, z1, z2⟩ := hk r h1 q hn
    refine zJ_i2l dL_tight_7 ?_
    refine zJ_last (Nat.lt_of_lt_of_le hlo'.1 hn) z1 (vp_in_nI (n := 0) (by omega) (by omega)) dL_tight_8 ?_
    refine zJ_goto 15 dL_tight_9 (by decide) ?_
    refine zJ_iconst dL_tight_15 (v := nI 0) rfl ?_
    exact zJ_iret rfl dL_tight_16 z2
theorem w_season (hl : l.stackTraces = false) (hs : zSt g) (hlo' : zLo g) {d' kc ks : Nat} (hd : d' + 1 ≤ d) {a1 a2 a3 a4 : Int32} {post1 post : zR → zH → Prop} (hC : zC l Xi mX12_season d' kc ks [.ref 0, .int a1, .int a2, .int a3, .int a4] (I, g) post1) (hx : ∀ E h1, post1 (.inr E) h1 → g.1 ≤ h1.2.1 → (E = "java/lang/IllegalArgumentException" ∧ post (.inl (some (.int (nI 1)))) h1))
    (hk : ∀ r h1, post1 (.inl r) h1 → g.1 ≤ h1.2.1 → ∃ v, r = some (.int v) ∧ h1.2.2.1 642 = .inr (1, 1) ∧ post (.inl (some (.int (nI 0)))) (hlo h1 v)) : zC l Xi mL_season d kc ks [.ref 0, .int a1, .int a2, .int a3, .int a4, .ref 642] (I, g) post := by
  refine zC_ofH hl rfl rfl rfl (Nat.le_of_ble_eq_true rfl) (zav_r (zSt_ob hs 0 12 rfl).1 (zav_i (zav_i (zav_i (zav_i (zav_r hlo'.1 zav_0)))))) ?_
  refine zJ_aload dL_season_0 rfl ?_
  refine zJ_iconst dL_season_2 (v := nI 0) rfl ?_
  refine zJ_aload_n dL_season_3 rfl ?_
  refine zJ_iload_n dL_season_4 rfl ?_
  refine zJ_iload_n dL_season_5 rfl ?_
  refine zJ_iload_n dL_season_6 rfl ?_
  refine zJ_iload dL_season_7 rfl ?_
  refine zJ_wid (kc := 0 + kc) (ks := 0 + ks) (by omega) (by omega) (zJ_callVH (kc := 0) (ks := 0) [.int a1, .int a2, .int a3, .int a4] [.int (nI 0), .ref 642] lv_L_86 hC (zSt_ob hs 0 12 rfl).1 (zSt_ob hs 0 12 rfl).2 rfl hd (Nat.le_of_ble_eq_true rfl) rfl dL_season_9 (fun E h1 q hn => ?_) (fun r h1 q hn => ?_))
  · rcases hx E h1 q hn with ⟨rfl, z⟩
    · exact ⟨nI 1, ⟨[], [], ⟨0, 14, 17, 13⟩, rfl, (fun z hz => by cases hz), rfl, by decide, lx_13, Or.inl rfl, 6, 2, Or.inr ⟨rfl, dL_season_17⟩, by decide, ⟨1, dL_season_19, rfl⟩, dL_season_20⟩, z⟩
  · obtain ⟨v, rfl, z1, z2⟩ := hk r h1 q hn
    refine zJ_i2l dL_season_12 ?_
    refine zJ_last (Nat.lt_of_lt_of_le hlo'.1 hn) z1 (vp_in_nI (n := 0) (by omega) (by omega)) dL_season_13 ?_
    refine zJ_goto 21 dL_season_14 (by decide) ?_
    refine zJ_iconst dL_season_21 (v := nI 0) rfl ?_
    exact zJ_iret rfl dL_season_22 z2
theorem w_span (hl : l.stackTraces = false) (hs : zSt g) (hlo' : zLo g) {d' kc ks : Nat} (hd : d' + 1 ≤ d) {a1 a2 a3 a4 a5 a6 : Int32} {post1 post : zR → zH → Prop} (hC : zC l Xi mX12_span d' kc ks [.ref 0, .int a1, .int a2, .int a3, .int a4, .int a5, .int a6] (I, g) post1) (hx : ∀ E h1, post1 (.inr E) h1 → g.1 ≤ h1.2.1 → (E = "java/util/NoSuchElementException" ∧ post (.inl (some (.int (nI 1)))) h1) ∨ (E = "java/lang/IllegalArgumentException" ∧ post (.inl (some (.int (nI 2)))) h1))
    (hk : ∀ r h1, post1 (.inl r) h1 → g.1 ≤ h1.2.1 → ∃ v, r = some (.int v) ∧ h1.2.2.1 642 = .inr (1, 1) ∧ post (.inl (some (.int (nI 0)))) (hlo h1 v)) : zC l Xi mL_span d kc ks [.ref 0, .int a1, .int a2, .int a3, .int a4, .int a5, .int a6, .ref 642] (I, g) post := by
  refine zC_ofH hl rfl rfl rfl (Nat.le_of_ble_eq_true rfl) (zav_r (zSt_ob hs 0 12 rfl).1 (zav_i (zav_i (zav_i (zav_i (zav_i (zav_i (zav_r hlo'.1 zav_0)))))))) ?_
  refine zJ_aload dL_span_0 rfl ?_
  refine zJ_iconst dL_span_2 (v := nI 0) rfl ?_
  refine zJ_aload_n dL_span_3 rfl ?_
  refine zJ_iload_n dL_span_4 rfl ?_
  refine zJ_iload_n dL_span_5 rfl ?_
  refine zJ_iload_n dL_span_6 rfl ?_
  refine zJ_iload dL_span_7 rfl ?_
  refine zJ_iload dL_span_9 rfl ?_
  refine zJ_iload dL_span_11 rfl ?_
  refine zJ_wid (kc := 0 + kc) (ks := 0 + ks) (by omega) (by omega) (zJ_callVH (kc := 0) (ks := 0) [.int a1, .int a2, .int a3, .int a4, .int a5, .int a6] [.int (nI 0), .ref 642] lv_L_90 hC (zSt_ob hs 0 12 rfl).1 (zSt_ob hs 0 12 rfl).2 rfl hd (Nat.le_of_ble_eq_true rfl) rfl dL_span_13 (fun E h1 q hn => ?_) (fun r h1 q hn => ?_))
  · rcases hx E h1 q hn with ⟨rfl, z⟩ | ⟨rfl, z⟩
    · exact ⟨nI 1, ⟨[], [⟨0, 18, 25, 13⟩], ⟨0, 18, 21, 31⟩, rfl, (fun z hz => by cases hz), rfl, by decide, lx_31, Or.inr rfl, 8, 2, Or.inr ⟨rfl, dL_span_21⟩, by decide, ⟨1, dL_span_23, rfl⟩, dL_span_24⟩, z⟩
    · exact ⟨nI 2, ⟨[⟨0, 18, 21, 31⟩], [], ⟨0, 18, 25, 13⟩, rfl, (fun z hz => by rw [List.mem_singleton.mp hz]; exact ⟨by decide, _, lx_31, Or.inl ⟨rfl, rfl⟩⟩), rfl, by decide, lx_13, Or.inl rfl, 8, 2, Or.inr ⟨rfl, dL_span_25⟩, by decide, ⟨2, dL_span_27, rfl⟩, dL_span_28⟩, z⟩
  · obtain ⟨v, rfl, z1, z2⟩ := hk r h1 q hn
    refine zJ_i2l dL_span_16 ?_
    refine zJ_last (Nat.lt_of_lt_of_le hlo'.1 hn) z1 (vp_in_nI (n := 0) (by omega) (by omega)) dL_span_17 ?_
    refine zJ_goto 29 dL_span_18 (by decide) ?_
    refine zJ_iconst dL_span_29 (v := nI 0) rfl ?_
    exact zJ_iret rfl dL_span_30 z2
end ZWrap
