/-! ===== calls that are refused ===== -/
section ZX12h
variable {l : Launch} {Xi : zXi} {d : Nat} {I : zI} {g : zG}
/-- the first condition that fails, its kind: no such, or wrong -/
def rT : List (Bool × Bool) → Option Bool
  | [] => none
  | q :: cs => if q.1 then rT cs else some q.2
theorem rT_cons {c b k : Bool} {cs : List (Bool × Bool)} (h : rT ((c, b) :: cs) = some k) : (c = false ∧ k = b) ∨ (c = true ∧ rT cs = some k) := by
  cases c
  · exact Or.inl ⟨rfl, (Option.some.inj h).symm⟩
  · exact Or.inr ⟨rfl, h⟩
def nmR (k : Bool) : String := if k then "java/util/NoSuchElementException" else "java/lang/IllegalArgumentException"
def cuR (k : Bool) (I : zI) : zI := if k then nsU I else wrU I
def nWhat (x y : Int32) : Bool := decide (¬ x < 0 ∧ x ≤ y)
def nRange (x y z : Int32) : Bool := decide (¬ x < y ∧ x ≤ z)
def nNet (I : zI) (x : Int32) : Bool := decide (¬ x < 0 ∧ x < I 3 2)
def nRow (I : zI) (x : Int32) : Bool := decide (¬ x < 0 ∧ x < I 3 1)
def nPlace (I : zI) (x y : Int32) : Bool := decide (¬ x < 0 ∧ ¬ I 3 0 ≤ x ∧ ¬ y < 0 ∧ y < I 3 1)
def nLength (I : zI) (x y : Int32) : Bool := decide (¬ x < 0 ∧ ¬ y < x ∧ x ≤ I 1 1)
def r_board (I : zI) (a1 : Int32) : List (Bool × Bool) := [(nLength I a1 (nI 600), false)]
theorem t_board (hl : l.stackTraces = false) (hd : 12 ≤ d) (hs : zSt g) {a1 : Int32} {k : Bool} (hx : rT (r_board I a1) = some k) : zT l Xi mX12_board d 1 6 [.ref 0, .int a1] I g (nmR k) (cuR k I) := by
  refine zC_of hl rfl rfl rfl (Nat.le_of_ble_eq_true rfl) (zav_r (zSt_ob hs 0 12 rfl).1 (zav_i zav_0)) ?_
  unfold r_board at hx
  rcases rT_cons hx with ⟨c, rfl⟩ | ⟨h0, hx⟩
  · skip
    refine zJ_aload_n dX12_board_0 rfl ?_
    refine zJ_iload_n dX12_board_1 rfl ?_
    refine zJ_sipush (v := nI 600) dX12_board_2 rfl ?_
    refine zP_thrV [_, _] _ lv_X12_115 (t_needLength (d := d - 1) hl (by omega) hs (of_decide_eq_false c)) (zSt_ob hs 0 12 rfl) rfl (by omega) (Nat.le_of_ble_eq_true rfl) rfl (by decide) (by decide) dX12_board_5 ?_
    exact ⟨rfl, rfl⟩
  cases hx
def r_law (I : zI) (a1 : Int32) : List (Bool × Bool) := [(nLength I a1 (nI 150), false)]
theorem t_law (hl : l.stackTraces = false) (hd : 12 ≤ d) (hs : zSt g) {a1 : Int32} {k : Bool} (hx : rT (r_law I a1) = some k) : zT l Xi mX12_law d 1 6 [.ref 0, .int a1] I g (nmR k) (cuR k I) := by
  refine zC_of hl rfl rfl rfl (Nat.le_of_ble_eq_true rfl) (zav_r (zSt_ob hs 0 12 rfl).1 (zav_i zav_0)) ?_
  unfold r_law at hx
  rcases rT_cons hx with ⟨c, rfl⟩ | ⟨h0, hx⟩
  · skip
    refine zJ_aload_n dX12_law_0 rfl ?_
    refine zJ_iload_n dX12_law_1 rfl ?_
    refine zJ_sipush (v := nI 150) dX12_law_2 rfl ?_
    refine zP_thrV [_, _] _ lv_X12_115 (t_needLength (d := d - 1) hl (by omega) hs (of_decide_eq_false c)) (zSt_ob hs 0 12 rfl) rfl (by omega) (Nat.le_of_ble_eq_true rfl) rfl (by decide) (by decide) dX12_law_5 ?_
    exact ⟨rfl, rfl⟩
  cases hx
def r_work (I : zI) (a1 : Int32) : List (Bool × Bool) := [(nLength I a1 (nI 150), false)]
theorem t_work (hl : l.stackTraces = false) (hd : 12 ≤ d) (hs : zSt g) {a1 : Int32} {k : Bool} (hx : rT (r_work I a1) = some k) : zT l Xi mX12_work d 1 6 [.ref 0, .int a1] I g (nmR k) (cuR k I) := by
  refine zC_of hl rfl rfl rfl (Nat.le_of_ble_eq_true rfl) (zav_r (zSt_ob hs 0 12 rfl).1 (zav_i zav_0)) ?_
  unfold r_work at hx
  rcases rT_cons hx with ⟨c, rfl⟩ | ⟨h0, hx⟩
  · skip
    refine zJ_aload_n dX12_work_0 rfl ?_
    refine zJ_iload_n dX12_work_1 rfl ?_
    refine zJ_sipush (v := nI 150) dX12_work_2 rfl ?_
    refine zP_thrV [_, _] _ lv_X12_115 (t_needLength (d := d - 1) hl (by omega) hs (of_decide_eq_false c)) (zSt_ob hs 0 12 rfl) rfl (by omega) (Nat.le_of_ble_eq_true rfl) rfl (by decide) (by decide) dX12_work_5 ?_
    exact ⟨rfl, rfl⟩
  cases hx
def r_book (I : zI) (a1 : Int32) : List (Bool × Bool) := [(nLength I a1 (nI 60), false)]
theorem t_book (hl : l.stackTraces = false) (hd : 12 ≤ d) (hs : zSt g) {a1 : Int32} {k : Bool} (hx : rT (r_book I a1) = some k) : zT l Xi mX12_book d 1 6 [.ref 0, .int a1] I g (nmR k) (cuR k I) := by
  refine zC_of hl rfl rfl rfl (Nat.le_of_ble_eq_true rfl) (zav_r (zSt_ob hs 0 12 rfl).1 (zav_i zav_0)) ?_
  unfold r_book at hx
  rcases rT_cons hx with ⟨c, rfl⟩ | ⟨h0, hx⟩
  · skip
    refine zJ_aload_n dX12_book_0 rfl ?_
    refine zJ_iload_n dX12_book_1 rfl ?_
    refine zJ_bipush (v := nI 60) dX12_book_2 rfl ?_
    refine zP_thrV [_, _] _ lv_X12_115 (t_needLength (d := d - 1) hl (by omega) hs (of_decide_eq_false c)) (zSt_ob hs 0 12 rfl) rfl (by omega) (Nat.le_of_ble_eq_true rfl) rfl (by decide) (by decide) dX12_book_4 ?_
    exact ⟨rfl, rfl⟩
  cases hx
def r_told (I : zI) (a1 : Int32) : List (Bool × Bool) := [(nWhat a1 (nI 12), false)]
theorem t_told (hl : l.stackTraces = false) (hd : 12 ≤ d) (hs : zSt g) {a1 : Int32} {k : Bool} (hx : rT (r_told I a1) = some k) : zT l Xi mX12_told d 1 6 [.ref 0, .int a1] I g (nmR k) (cuR k I) := by
  refine zC_of hl rfl rfl rfl (Nat.le_of_ble_eq_true rfl) (zav_r (zSt_ob hs 0 12 rfl).1 (zav_i zav_0)) ?_
  unfold r_told at hx
  rcases rT_cons hx with ⟨c, rfl⟩ | ⟨h0, hx⟩
  · skip
    refine zJ_aload_n dX12_told_0 rfl ?_
    refine zJ_iload_n dX12_told_1 rfl ?_
    refine zJ_bipush (v := nI 12) dX12_told_2 rfl ?_
    refine zP_thrV [_, _] _ lv_X12_176 (t_needWhat (d := d - 1) hl (by omega) hs (of_decide_eq_false c)) (zSt_ob hs 0 12 rfl) rfl (by omega) (Nat.le_of_ble_eq_true rfl) rfl (by decide) (by decide) dX12_told_4 ?_
    exact ⟨rfl, rfl⟩
  cases hx
def r_net (I : zI) (a1 a2 : Int32) : List (Bool × Bool) := [(nNet I a1, true), (nWhat a2 (nI 10), false)]
theorem t_net (hl : l.stackTraces = false) (hd : 12 ≤ d) (hs : zSt g) {a1 a2 : Int32} {k : Bool} (hx : rT (r_net I a1 a2) = some k) : zT l Xi mX12_net d 1 6 [.ref 0, .int a1, .int a2] I g (nmR k) (cuR k I) := by
  refine zC_of hl rfl rfl rfl (Nat.le_of_ble_eq_true rfl) (zav_r (zSt_ob hs 0 12 rfl).1 (zav_i (zav_i zav_0))) ?_
  unfold r_net at hx
  rcases rT_cons hx with ⟨c, rfl⟩ | ⟨h0, hx⟩
  · skip
    refine zJ_aload_n dX12_net_0 rfl ?_
    refine zJ_iload_n dX12_net_1 rfl ?_
    refine zP_thrV [_] _ lv_X12_211 (t_needNet (d := d - 1) hl (by omega) hs (of_decide_eq_false c)) (zSt_ob hs 0 12 rfl) rfl (by omega) (Nat.le_of_ble_eq_true rfl) rfl (by decide) (by decide) dX12_net_2 ?_
    exact ⟨rfl, rfl⟩
  rcases rT_cons hx with ⟨c, rfl⟩ | ⟨h1, hx⟩
  · skip
    refine zJ_aload_n dX12_net_0 rfl ?_
    refine zJ_iload_n dX12_net_1 rfl ?_
    refine zP_callVv [_] _ lv_X12_211 (k_needNet (d := d - 1) hl (by omega) hs (of_decide_eq_true h0)) (zSt_ob hs 0 12 rfl) rfl (by omega) (Nat.le_of_ble_eq_true rfl) rfl dX12_net_2 ?_
    refine zJ_aload_n dX12_net_5 rfl ?_
    refine zJ_iload_n dX12_net_6 rfl ?_
    refine zJ_bipush (v := nI 10) dX12_net_7 rfl ?_
    refine zP_thrV [_, _] _ lv_X12_176 (t_needWhat (d := d - 1) hl (by omega) hs (of_decide_eq_false c)) (zSt_ob hs 0 12 rfl) rfl (by omega) (Nat.le_of_ble_eq_true rfl) rfl (by decide) (by decide) dX12_net_9 ?_
    exact ⟨rfl, rfl⟩
  cases hx
def r_place (I : zI) (a1 a2 a3 : Int32) : List (Bool × Bool) := [(nPlace I a1 a2, true), (nWhat a3 (nI 6), false)]
theorem t_place (hl : l.stackTraces = false) (hd : 12 ≤ d) (hs : zSt g) {a1 a2 a3 : Int32} {k : Bool} (hx : rT (r_place I a1 a2 a3) = some k) : zT l Xi mX12_place d 1 6 [.ref 0, .int a1, .int a2, .int a3] I g (nmR k) (cuR k I) := by
  refine zC_of hl rfl rfl rfl (Nat.le_of_ble_eq_true rfl) (zav_r (zSt_ob hs 0 12 rfl).1 (zav_i (zav_i (zav_i zav_0)))) ?_
  unfold r_place at hx
  rcases rT_cons hx with ⟨c, rfl⟩ | ⟨h0, hx⟩
  · skip
    refine zJ_aload_n dX12_place_0 rfl ?_
    refine zJ_iload_n dX12_place_1 rfl ?_
    refine zJ_iload_n dX12_place_2 rfl ?_
    refine zP_thrV [_, _] _ lv_X12_248 (t_needPlace (d := d - 1) hl (by omega) hs (of_decide_eq_false c)) (zSt_ob hs 0 12 rfl) rfl (by omega) (Nat.le_of_ble_eq_true rfl) rfl (by decide) (by decide) dX12_place_3 ?_
    exact ⟨rfl, rfl⟩
  rcases rT_cons hx with ⟨c, rfl⟩ | ⟨h1, hx⟩
  · skip
    refine zJ_aload_n dX12_place_0 rfl ?_
    refine zJ_iload_n dX12_place_1 rfl ?_
    refine zJ_iload_n dX12_place_2 rfl ?_
    refine zP_callVv [_, _] _ lv_X12_248 (k_needPlace (d := d - 1) hl (by omega) hs (of_decide_eq_true h0)) (zSt_ob hs 0 12 rfl) rfl (by omega) (Nat.le_of_ble_eq_true rfl) rfl dX12_place_3 ?_
    refine zJ_aload_n dX12_place_6 rfl ?_
    refine zJ_iload_n dX12_place_7 rfl ?_
    refine zJ_bipush (v := nI 6) dX12_place_8 rfl ?_
    refine zP_thrV [_, _] _ lv_X12_176 (t_needWhat (d := d - 1) hl (by omega) hs (of_decide_eq_false c)) (zSt_ob hs 0 12 rfl) rfl (by omega) (Nat.le_of_ble_eq_true rfl) rfl (by decide) (by decide) dX12_place_10 ?_
    exact ⟨rfl, rfl⟩
  cases hx
def r_cost (I : zI) (a1 a2 a3 : Int32) : List (Bool × Bool) := [(nNet I a1, true), (nPlace I a2 a3, true)]
theorem t_cost (hl : l.stackTraces = false) (hd : 12 ≤ d) (hs : zSt g) {a1 a2 a3 : Int32} {k : Bool} (hx : rT (r_cost I a1 a2 a3) = some k) : zT l Xi mX12_cost d 1 6 [.ref 0, .int a1, .int a2, .int a3] I g (nmR k) (cuR k I) := by
  refine zC_of hl rfl rfl rfl (Nat.le_of_ble_eq_true rfl) (zav_r (zSt_ob hs 0 12 rfl).1 (zav_i (zav_i (zav_i zav_0)))) ?_
  unfold r_cost at hx
  rcases rT_cons hx with ⟨c, rfl⟩ | ⟨h0, hx⟩
  · skip
    refine zJ_aload_n dX12_cost_0 rfl ?_
    refine zJ_iload_n dX12_cost_1 rfl ?_
    refine zP_thrV [_] _ lv_X12_211 (t_needNet (d := d - 1) hl (by omega) hs (of_decide_eq_false c)) (zSt_ob hs 0 12 rfl) rfl (by omega) (Nat.le_of_ble_eq_true rfl) rfl (by decide) (by decide) dX12_cost_2 ?_
    exact ⟨rfl, rfl⟩
  rcases rT_cons hx with ⟨c, rfl⟩ | ⟨h1, hx⟩
  · skip
    refine zJ_aload_n dX12_cost_0 rfl ?_
    refine zJ_iload_n dX12_cost_1 rfl ?_
    refine zP_callVv [_] _ lv_X12_211 (k_needNet (d := d - 1) hl (by omega) hs (of_decide_eq_true h0)) (zSt_ob hs 0 12 rfl) rfl (by omega) (Nat.le_of_ble_eq_true rfl) rfl dX12_cost_2 ?_
    refine zJ_aload_n dX12_cost_5 rfl ?_
    refine zJ_iload_n dX12_cost_6 rfl ?_
    refine zJ_iload_n dX12_cost_7 rfl ?_
    refine zP_thrV [_, _] _ lv_X12_248 (t_needPlace (d := d - 1) hl (by omega) hs (of_decide_eq_false c)) (zSt_ob hs 0 12 rfl) rfl (by omega) (Nat.le_of_ble_eq_true rfl) rfl (by decide) (by decide) dX12_cost_8 ?_
    exact ⟨rfl, rfl⟩
  cases hx
def r_would (I : zI) (a1 a2 a3 a4 a5 a6 a7 a8 : Int32) : List (Bool × Bool) := [(nRange a1 (nI 0) (nI 9999), false), (nRange a2 (nI 0) (nI 6), false), (nRange a3 (nI 0) (nI 9), false), (nRange a4 (nI 0) (nI 400), false), (nRange a5 (nI 1) (nI 3), false), (nRange a6 (nI 0) (nI 7), false), (nRange a7 (nI 0) (nI 7), false), (nRange a8 (nI 0) (nI 6), false)]
theorem t_would (hl : l.stackTraces = false) (hd : 12 ≤ d) (hs : zSt g) {a1 a2 a3 a4 a5 a6 a7 a8 : Int32} {k : Bool} (hx : rT (r_would I a1 a2 a3 a4 a5 a6 a7 a8) = some k) : zT l Xi mX12_would d 1 6 [.ref 0, .int a1, .int a2, .int a3, .int a4, .int a5, .int a6, .int a7, .int a8] I g (nmR k) (cuR k I) := by
  refine zC_of hl rfl rfl rfl (Nat.le_of_ble_eq_true rfl) (zav_r (zSt_ob hs 0 12 rfl).1 (zav_i (zav_i (zav_i (zav_i (zav_i (zav_i (zav_i (zav_i zav_0))))))))) ?_
  unfold r_would at hx
  rcases rT_cons hx with ⟨c, rfl⟩ | ⟨h0, hx⟩
  · skip
    refine zJ_aload_n dX12_would_0 rfl ?_
    refine zJ_iload_n dX12_would_1 rfl ?_
    refine zJ_iconst (v := nI 0) dX12_would_2 rfl ?_
    refine zJ_sipush (v := nI 9999) dX12_would_3 rfl ?_
    refine zP_thrV [_, _, _] _ lv_X12_276 (t_needRange (d := d - 1) hl (by omega) hs (of_decide_eq_false c)) (zSt_ob hs 0 12 rfl) rfl (by omega) (Nat.le_of_ble_eq_true rfl) rfl (by decide) (by decide) dX12_would_6 ?_
    exact ⟨rfl, rfl⟩
  rcases rT_cons hx with ⟨c, rfl⟩ | ⟨h1, hx⟩
  · skip
    refine zJ_aload_n dX12_would_0 rfl ?_
    refine zJ_iload_n dX12_would_1 rfl ?_
    refine zJ_iconst (v := nI 0) dX12_would_2 rfl ?_
    refine zJ_sipush (v := nI 9999) dX12_would_3 rfl ?_
    refine zP_callVv [_, _, _] _ lv_X12_276 (k_needRange (d := d - 1) hl (by omega) hs (of_decide_eq_true h0)) (zSt_ob hs 0 12 rfl) rfl (by omega) (Nat.le_of_ble_eq_true rfl) rfl dX12_would_6 ?_
    refine zJ_aload_n dX12_would_9 rfl ?_
    refine zJ_iload_n dX12_would_10 rfl ?_
    refine zJ_iconst (v := nI 0) dX12_would_11 rfl ?_
    refine zJ_bipush (v := nI 6) dX12_would_12 rfl ?_
    refine zP_thrV [_, _, _] _ lv_X12_276 (t_needRange (d := d - 1) hl (by omega) hs (of_decide_eq_false c)) (zSt_ob hs 0 12 rfl) rfl (by omega) (Nat.le_of_ble_eq_true rfl) rfl (by decide) (by decide) dX12_would_14 ?_
    exact ⟨rfl, rfl⟩
  rcases rT_cons hx with ⟨c, rfl⟩ | ⟨h2, hx⟩
  · skip
    refine zJ_aload_n dX12_would_0 rfl ?_
    refine zJ_iload_n dX12_would_1 rfl ?_
    refine zJ_iconst (v := nI 0) dX12_would_2 rfl ?_
    refine zJ_sipush (v := nI 9999) dX12_would_3 rfl ?_
    refine zP_callVv [_, _, _] _ lv_X12_276 (k_needRange (d := d - 1) hl (by omega) hs (of_decide_eq_true h0)) (zSt_ob hs 0 12 rfl) rfl (by omega) (Nat.le_of_ble_eq_true rfl) rfl dX12_would_6 ?_
    refine zJ_aload_n dX12_would_9 rfl ?_
    refine zJ_iload_n dX12_would_10 rfl ?_
    refine zJ_iconst (v := nI 0) dX12_would_11 rfl ?_
    refine zJ_bipush (v := nI 6) dX12_would_12 rfl ?_
    refine zP_callVv [_, _, _] _ lv_X12_276 (k_needRange (d := d - 1) hl (by omega) hs (of_decide_eq_true h1)) (zSt_ob hs 0 12 rfl) rfl (by omega) (Nat.le_of_ble_eq_true rfl) rfl dX12_would_14 ?_
    refine zJ_aload_n dX12_would_17 rfl ?_
    refine zJ_iload_n dX12_would_18 rfl ?_
    refine zJ_iconst (v := nI 0) dX12_would_19 rfl ?_
    refine zJ_bipush (v := nI 9) dX12_would_20 rfl ?_
    refine zP_thrV [_, _, _] _ lv_X12_276 (t_needRange (d := d - 1) hl (by omega) hs (of_decide_eq_false c)) (zSt_ob hs 0 12 rfl) rfl (by omega) (Nat.le_of_ble_eq_true rfl) rfl (by decide) (by decide) dX12_would_22 ?_
    exact ⟨rfl, rfl⟩
  rcases rT_cons hx with ⟨c, rfl⟩ | ⟨h3, hx⟩
  · skip
    refine zJ_aload_n dX12_would_0 rfl ?_
    refine zJ_iload_n dX12_would_1 rfl ?_
    refine zJ_iconst (v := nI 0) dX12_would_2 rfl ?_
    refine zJ_sipush (v := nI 9999) dX12_would_3 rfl ?_
    refine zP_callVv [_, _, _] _ lv_X12_276 (k_needRange (d := d - 1) hl (by omega) hs (of_decide_eq_true h0)) (zSt_ob hs 0 12 rfl) rfl (by omega) (Nat.le_of_ble_eq_true rfl) rfl dX12_would_6 ?_
    refine zJ_aload_n dX12_would_9 rfl ?_
    refine zJ_iload_n dX12_would_10 rfl ?_
    refine zJ_iconst (v := nI 0) dX12_would_11 rfl ?_
    refine zJ_bipush (v := nI 6) dX12_would_12 rfl ?_
    refine zP_callVv [_, _, _] _ lv_X12_276 (k_needRange (d := d - 1) hl (by omega) hs (of_decide_eq_true h1)) (zSt_ob hs 0 12 rfl) rfl (by omega) (Nat.le_of_ble_eq_true rfl) rfl dX12_would_14 ?_
    refine zJ_aload_n dX12_would_17 rfl ?_
    refine zJ_iload_n dX12_would_18 rfl ?_
    refine zJ_iconst (v := nI 0) dX12_would_19 rfl ?_
    refine zJ_bipush (v := nI 9) dX12_would_20 rfl ?_
    refine zP_callVv [_, _, _] _ lv_X12_276 (k_needRange (d := d - 1) hl (by omega) hs (of_decide_eq_true h2)) (zSt_ob hs 0 12 rfl) rfl (by omega) (Nat.le_of_ble_eq_true rfl) rfl dX12_would_22 ?_
    refine zJ_aload_n dX12_would_25 rfl ?_
    refine zJ_iload dX12_would_26 rfl ?_
    refine zJ_iconst (v := nI 0) dX12_would_28 rfl ?_
    refine zJ_sipush (v := nI 400) dX12_would_29 rfl ?_
    refine zP_thrV [_, _, _] _ lv_X12_276 (t_needRange (d := d - 1) hl (by omega) hs (of_decide_eq_false c)) (zSt_ob hs 0 12 rfl) rfl (by omega) (Nat.le_of_ble_eq_true rfl) rfl (by decide) (by decide) dX12_would_32 ?_
    exact ⟨rfl, rfl⟩
  rcases rT_cons hx with ⟨c, rfl⟩ | ⟨h4, hx⟩
  · skip
    refine zJ_aload_n dX12_would_0 rfl ?_
    refine zJ_iload_n dX12_would_1 rfl ?_
    refine zJ_iconst (v := nI 0) dX12_would_2 rfl ?_
    refine zJ_sipush (v := nI 9999) dX12_would_3 rfl ?_
    refine zP_callVv [_, _, _] _ lv_X12_276 (k_needRange (d := d - 1) hl (by omega) hs (of_decide_eq_true h0)) (zSt_ob hs 0 12 rfl) rfl (by omega) (Nat.le_of_ble_eq_true rfl) rfl dX12_would_6 ?_
    refine zJ_aload_n dX12_would_9 rfl ?_
    refine zJ_iload_n dX12_would_10 rfl ?_
    refine zJ_iconst (v := nI 0) dX12_would_11 rfl ?_
    refine zJ_bipush (v := nI 6) dX12_would_12 rfl ?_
    refine zP_callVv [_, _, _] _ lv_X12_276 (k_needRange (d := d - 1) hl (by omega) hs (of_decide_eq_true h1)) (zSt_ob hs 0 12 rfl) rfl (by omega) (Nat.le_of_ble_eq_true rfl) rfl dX12_would_14 ?_
    refine zJ_aload_n dX12_would_17 rfl ?_
    refine zJ_iload_n dX12_would_18 rfl ?_
    refine zJ_iconst (v := nI 0) dX12_would_19 rfl ?_
    refine zJ_bipush (v := nI 9) dX12_would_20 rfl ?_
    refine zP_callVv [_, _, _] _ lv_X12_276 (k_needRange (d := d - 1) hl (by omega) hs (of_decide_eq_true h2)) (zSt_ob hs 0 12 rfl) rfl (by omega) (Nat.le_of_ble_eq_true rfl) rfl dX12_would_22 ?_
    refine zJ_aload_n dX12_would_25 rfl ?_
    refine zJ_iload dX12_would_26 rfl ?_
    refine zJ_iconst (v := nI 0) dX12_would_28 rfl ?_
    refine zJ_sipush (v := nI 400) dX12_would_29 rfl ?_
    refine zP_callVv [_, _, _] _ lv_X12_276 (k_needRange (d := d - 1) hl (by omega) hs (of_decide_eq_true h3)) (zSt_ob hs 0 12 rfl) rfl (by omega) (Nat.le_of_ble_eq_true rfl) rfl dX12_would_32 ?_
    refine zJ_aload_n dX12_would_35 rfl ?_
    refine zJ_iload dX12_would_36 rfl ?_
    refine zJ_iconst (v := nI 1) dX12_would_38 rfl ?_
    refine zJ_iconst (v := nI 3) dX12_would_39 rfl ?_
    refine zP_thrV [_, _, _] _ lv_X12_276 (t_needRange (d := d - 1) hl (by omega) hs (of_decide_eq_false c)) (zSt_ob hs 0 12 rfl) rfl (by omega) (Nat.le_of_ble_eq_true rfl) rfl (by decide) (by decide) dX12_would_40 ?_
    exact ⟨rfl, rfl⟩
  rcases rT_cons hx with ⟨c, rfl⟩ | ⟨h5, hx⟩
  · skip
    refine zJ_aload_n dX12_would_0 rfl ?_
    refine zJ_iload_n dX12_would_1 rfl ?_
    refine zJ_iconst (v := nI 0) dX12_would_2 rfl ?_
    refine zJ_sipush (v := nI 9999) dX12_would_3 rfl ?_
    refine zP_callVv [_, _, _] _ lv_X12_276 (k_needRange (d := d - 1) hl (by omega) hs (of_decide_eq_true h0)) (zSt_ob hs 0 12 rfl) rfl (by omega) (Nat.le_of_ble_eq_true rfl) rfl dX12_would_6 ?_
    refine zJ_aload_n dX12_would_9 rfl ?_
    refine zJ_iload_n dX12_would_10 rfl ?_
    refine zJ_iconst (v := nI 0) dX12_would_11 rfl ?_
    refine zJ_bipush (v := nI 6) dX12_would_12 rfl ?_
    refine zP_callVv [_, _, _] _ lv_X12_276 (k_needRange (d := d - 1) hl (by omega) hs (of_decide_eq_true h1)) (zSt_ob hs 0 12 rfl) rfl (by omega) (Nat.le_of_ble_eq_true rfl) rfl dX12_would_14 ?_
    refine zJ_aload_n dX12_would_17 rfl ?_
    refine zJ_iload_n dX12_would_18 rfl ?_
    refine zJ_iconst (v := nI 0) dX12_would_19 rfl ?_
    refine zJ_bipush (v := nI 9) dX12_would_20 rfl ?_
    refine zP_callVv [_, _, _] _ lv_X12_276 (k_needRange (d := d - 1) hl (by omega) hs (of_decide_eq_true h2)) (zSt_ob hs 0 12 rfl) rfl (by omega) (Nat.le_of_ble_eq_true rfl) rfl dX12_would_22 ?_
    refine zJ_aload_n dX12_would_25 rfl ?_
    refine zJ_iload dX12_would_26 rfl ?_
    refine zJ_iconst (v := nI 0) dX12_would_28 rfl ?_
    refine zJ_sipush (v := nI 400) dX12_would_29 rfl ?_
    refine zP_callVv [_, _, _] _ lv_X12_276 (k_needRange (d := d - 1) hl (by omega) hs (of_decide_eq_true h3)) (zSt_ob hs 0 12 rfl) rfl (by omega) (Nat.le_of_ble_eq_true rfl) rfl dX12_would_32 ?_
    refine zJ_aload_n dX12_would_35 rfl ?_
    refine zJ_iload dX12_would_36 rfl ?_
    refine zJ_iconst (v := nI 1) dX12_would_38 rfl ?_
    refine zJ_iconst (v := nI 3) dX12_would_39 rfl ?_
    refine zP_callVv [_, _, _] _ lv_X12_276 (k_needRange (d := d - 1) hl (by omega) hs (of_decide_eq_true h4)) (zSt_ob hs 0 12 rfl) rfl (by omega) (Nat.le_of_ble_eq_true rfl) rfl dX12_would_40 ?_
    refine zJ_aload_n dX12_would_43 rfl ?_
    refine zJ_iload dX12_would_44 rfl ?_
    refine zJ_iconst (v := nI 0) dX12_would_46 rfl ?_
    refine zJ_bipush (v := nI 7) dX12_would_47 rfl ?_
    refine zP_thrV [_, _, _] _ lv_X12_276 (t_needRange (d := d - 1) hl (by omega) hs (of_decide_eq_false c)) (zSt_ob hs 0 12 rfl) rfl (by omega) (Nat.le_of_ble_eq_true rfl) rfl (by decide) (by decide) dX12_would_49 ?_
    exact ⟨rfl, rfl⟩
  rcases rT_cons hx with ⟨c, rfl⟩ | ⟨h6, hx⟩
  · skip
    refine zJ_aload_n dX12_would_0 rfl ?_
    refine zJ_iload_n dX12_would_1 rfl ?_
    refine zJ_iconst (v := nI 0) dX12_would_2 rfl ?_
    refine zJ_sipush (v := nI 9999) dX12_would_3 rfl ?_
    refine zP_callVv [_, _, _] _ lv_X12_276 (k_needRange (d := d - 1) hl (by omega) hs (of_decide_eq_true h0)) (zSt_ob hs 0 12 rfl) rfl (by omega) (Nat.le_of_ble_eq_true rfl) rfl dX12_would_6 ?_
    refine zJ_aload_n dX12_would_9 rfl ?_
    refine zJ_iload_n dX12_would_10 rfl ?_
    refine zJ_iconst (v := nI 0) dX12_would_11 rfl ?_
    refine zJ_bipush (v := nI 6) dX12_would_12 rfl ?_
    refine zP_callVv [_, _, _] _ lv_X12_276 (k_needRange (d := d - 1) hl (by omega) hs (of_decide_eq_true h1)) (zSt_ob hs 0 12 rfl) rfl (by omega) (Nat.le_of_ble_eq_true rfl) rfl dX12_would_14 ?_
    refine zJ_aload_n dX12_would_17 rfl ?_
    refine zJ_iload_n dX12_would_18 rfl ?_
    refine zJ_iconst (v := nI 0) dX12_would_19 rfl ?_
    refine zJ_bipush (v := nI 9) dX12_would_20 rfl ?_
    refine zP_callVv [_, _, _] _ lv_X12_276 (k_needRange (d := d - 1) hl (by omega) hs (of_decide_eq_true h2)) (zSt_ob hs 0 12 rfl) rfl (by omega) (Nat.le_of_ble_eq_true rfl) rfl dX12_would_22 ?_
    refine zJ_aload_n dX12_would_25 rfl ?_
    refine zJ_iload dX12_would_26 rfl ?_
    refine zJ_iconst (v := nI 0) dX12_would_28 rfl ?_
    refine zJ_sipush (v := nI 400) dX12_would_29 rfl ?_
    refine zP_callVv [_, _, _] _ lv_X12_276 (k_needRange (d := d - 1) hl (by omega) hs (of_decide_eq_true h3)) (zSt_ob hs 0 12 rfl) rfl (by omega) (Nat.le_of_ble_eq_true rfl) rfl dX12_would_32 ?_
    refine zJ_aload_n dX12_would_35 rfl ?_
    refine zJ_iload dX12_would_36 rfl ?_
    refine zJ_iconst (v := nI 1) dX12_would_38 rfl ?_
    refine zJ_iconst (v := nI 3) dX12_would_39 rfl ?_
    refine zP_callVv [_, _, _] _ lv_X12_276 (k_needRange (d := d - 1) hl (by omega) hs (of_decide_eq_true h4)) (zSt_ob hs 0 12 rfl) rfl (by omega) (Nat.le_of_ble_eq_true rfl) rfl dX12_would_40 ?_
    refine zJ_aload_n dX12_would_43 rfl ?_
    refine zJ_iload dX12_would_44 rfl ?_
    refine zJ_iconst (v := nI 0) dX12_would_46 rfl ?_
    refine zJ_bipush (v := nI 7) dX12_would_47 rfl ?_
    refine zP_callVv [_, _, _] _ lv_X12_276 (k_needRange (d := d - 1) hl (by omega) hs (of_decide_eq_true h5)) (zSt_ob hs 0 12 rfl) rfl (by omega) (Nat.le_of_ble_eq_true rfl) rfl dX12_would_49 ?_
    refine zJ_aload_n dX12_would_52 rfl ?_
    refine zJ_iload dX12_would_53 rfl ?_
    refine zJ_iconst (v := nI 0) dX12_would_55 rfl ?_
    refine zJ_bipush (v := nI 7) dX12_would_56 rfl ?_
    refine zP_thrV [_, _, _] _ lv_X12_276 (t_needRange (d := d - 1) hl (by omega) hs (of_decide_eq_false c)) (zSt_ob hs 0 12 rfl) rfl (by omega) (Nat.le_of_ble_eq_true rfl) rfl (by decide) (by decide) dX12_would_58 ?_
    exact ⟨rfl, rfl⟩
  rcases rT_cons hx with ⟨c, rfl⟩ | ⟨h7, hx⟩
  · skip
    refine zJ_aload_n dX12_would_0 rfl ?_
    refine zJ_iload_n dX12_would_1 rfl ?_
    refine zJ_iconst (v := nI 0) dX12_would_2 rfl ?_
    refine zJ_sipush (v := nI 9999) dX12_would_3 rfl ?_
    refine zP_callVv [_, _, _] _ lv_X12_276 (k_needRange (d := d - 1) hl (by omega) hs (of_decide_eq_true h0)) (zSt_ob hs 0 12 rfl) rfl (by omega) (Nat.le_of_ble_eq_true rfl) rfl dX12_would_6 ?_
    refine zJ_aload_n dX12_would_9 rfl ?_
    refine zJ_iload_n dX12_would_10 rfl ?_
    refine zJ_iconst (v := nI 0) dX12_would_11 rfl ?_
    refine zJ_bipush (v := nI 6) dX12_would_12 rfl ?_
    refine zP_callVv [_, _, _] _ lv_X12_276 (k_needRange (d := d - 1) hl (by omega) hs (of_decide_eq_true h1)) (zSt_ob hs 0 12 rfl) rfl (by omega) (Nat.le_of_ble_eq_true rfl) rfl dX12_would_14 ?_
    refine zJ_aload_n dX12_would_17 rfl ?_
    refine zJ_iload_n dX12_would_18 rfl ?_
    refine zJ_iconst (v := nI 0) dX12_would_19 rfl ?_
    refine zJ_bipush (v := nI 9) dX12_would_20 rfl ?_
    refine zP_callVv [_, _, _] _ lv_X12_276 (k_needRange (d := d - 1) hl (by omega) hs (of_decide_eq_true h2)) (zSt_ob hs 0 12 rfl) rfl (by omega) (Nat.le_of_ble_eq_true rfl) rfl dX12_would_22 ?_
    refine zJ_aload_n dX12_would_25 rfl ?_
    refine zJ_iload dX12_would_26 rfl ?_
    refine zJ_iconst (v := nI 0) dX12_would_28 rfl ?_
    refine zJ_sipush (v := nI 400) dX12_would_29 rfl ?_
    refine zP_callVv [_, _, _] _ lv_X12_276 (k_needRange (d := d - 1) hl (by omega) hs (of_decide_eq_true h3)) (zSt_ob hs 0 12 rfl) rfl (by omega) (Nat.le_of_ble_eq_true rfl) rfl dX12_would_32 ?_
    refine zJ_aload_n dX12_would_35 rfl ?_
    refine zJ_iload dX12_would_36 rfl ?_
    refine zJ_iconst (v := nI 1) dX12_would_38 rfl ?_
    refine zJ_iconst (v := nI 3) dX12_would_39 rfl ?_
    refine zP_callVv [_, _, _] _ lv_X12_276 (k_needRange (d := d - 1) hl (by omega) hs (of_decide_eq_true h4)) (zSt_ob hs 0 12 rfl) rfl (by omega) (Nat.le_of_ble_eq_true rfl) rfl dX12_would_40 ?_
    refine zJ_aload_n dX12_would_43 rfl ?_
    refine zJ_iload dX12_would_44 rfl ?_
    refine zJ_iconst (v := nI 0) dX12_would_46 rfl ?_
    refine zJ_bipush (v := nI 7) dX12_would_47 rfl ?_
    refine zP_callVv [_, _, _] _ lv_X12_276 (k_needRange (d := d - 1) hl (by omega) hs (of_decide_eq_true h5)) (zSt_ob hs 0 12 rfl) rfl (by omega) (Nat.le_of_ble_eq_true rfl) rfl dX12_would_49 ?_
    refine zJ_aload_n dX12_would_52 rfl ?_
    refine zJ_iload dX12_would_53 rfl ?_
    refine zJ_iconst (v := nI 0) dX12_would_55 rfl ?_
    refine zJ_bipush (v := nI 7) dX12_would_56 rfl ?_
    refine zP_callVv [_, _, _] _ lv_X12_276 (k_needRange (d := d - 1) hl (by omega) hs (of_decide_eq_true h6)) (zSt_ob hs 0 12 rfl) rfl (by omega) (Nat.le_of_ble_eq_true rfl) rfl dX12_would_58 ?_
    refine zJ_aload_n dX12_would_61 rfl ?_
    refine zJ_iload dX12_would_62 rfl ?_
    refine zJ_iconst (v := nI 0) dX12_would_64 rfl ?_
    refine zJ_bipush (v := nI 6) dX12_would_65 rfl ?_
    refine zP_thrV [_, _, _] _ lv_X12_276 (t_needRange (d := d - 1) hl (by omega) hs (of_decide_eq_false c)) (zSt_ob hs 0 12 rfl) rfl (by omega) (Nat.le_of_ble_eq_true rfl) rfl (by decide) (by decide) dX12_would_67 ?_
    exact ⟨rfl, rfl⟩
  cases hx
def r_parent (I : zI) (a1 a2 a3 : Int32) : List (Bool × Bool) := [(nNet I a1, true), (nPlace I a2 a3, true)]
theorem t_parent (hl : l.stackTraces = false) (hd : 12 ≤ d) (hs : zSt g) {a1 a2 a3 : Int32} {k : Bool} (hx : rT (r_parent I a1 a2 a3) = some k) : zT l Xi mX12_parent d 1 6 [.ref 0, .int a1, .int a2, .int a3] I g (nmR k) (cuR k I) := by
  refine zC_of hl rfl rfl rfl (Nat.le_of_ble_eq_true rfl) (zav_r (zSt_ob hs 0 12 rfl).1 (zav_i (zav_i (zav_i zav_0)))) ?_
  unfold r_parent at hx
  rcases rT_cons hx with ⟨c, rfl⟩ | ⟨h0, hx⟩
  · skip
    refine zJ_aload_n dX12_parent_0 rfl ?_
    refine zJ_iload_n dX12_parent_1 rfl ?_
    refine zP_thrV [_] _ lv_X12_211 (t_needNet (d := d - 1) hl (by omega) hs (of_decide_eq_false c)) (zSt_ob hs 0 12 rfl) rfl (by omega) (Nat.le_of_ble_eq_true rfl) rfl (by decide) (by decide) dX12_parent_2 ?_
    exact ⟨rfl, rfl⟩
  rcases rT_cons hx with ⟨c, rfl⟩ | ⟨h1, hx⟩
  · skip
    refine zJ_aload_n dX12_parent_0 rfl ?_
    refine zJ_iload_n dX12_parent_1 rfl ?_
    refine zP_callVv [_] _ lv_X12_211 (k_needNet (d := d - 1) hl (by omega) hs (of_decide_eq_true h0)) (zSt_ob hs 0 12 rfl) rfl (by omega) (Nat.le_of_ble_eq_true rfl) rfl dX12_parent_2 ?_
    refine zJ_aload_n dX12_parent_5 rfl ?_
    refine zJ_iload_n dX12_parent_6 rfl ?_
    refine zJ_iload_n dX12_parent_7 rfl ?_
    refine zP_thrV [_, _] _ lv_X12_248 (t_needPlace (d := d - 1) hl (by omega) hs (of_decide_eq_false c)) (zSt_ob hs 0 12 rfl) rfl (by omega) (Nat.le_of_ble_eq_true rfl) rfl (by decide) (by decide) dX12_parent_8 ?_
    exact ⟨rfl, rfl⟩
  cases hx
def r_dist (I : zI) (a1 a2 a3 : Int32) : List (Bool × Bool) := [(nNet I a1, true), (nPlace I a2 a3, true)]
theorem t_dist (hl : l.stackTraces = false) (hd : 12 ≤ d) (hs : zSt g) {a1 a2 a3 : Int32} {k : Bool} (hx : rT (r_dist I a1 a2 a3) = some k) : zT l Xi mX12_dist d 1 6 [.ref 0, .int a1, .int a2, .int a3] I g (nmR k) (cuR k I) := by
  refine zC_of hl rfl rfl rfl (Nat.le_of_ble_eq_true rfl) (zav_r (zSt_ob hs 0 12 rfl).1 (zav_i (zav_i (zav_i zav_0)))) ?_
  unfold r_dist at hx
  rcases rT_cons hx with ⟨c, rfl⟩ | ⟨h0, hx⟩
  · skip
    refine zJ_aload_n dX12_dist_0 rfl ?_
    refine zJ_iload_n dX12_dist_1 rfl ?_
    refine zP_thrV [_] _ lv_X12_211 (t_needNet (d := d - 1) hl (by omega) hs (of_decide_eq_false c)) (zSt_ob hs 0 12 rfl) rfl (by omega) (Nat.le_of_ble_eq_true rfl) rfl (by decide) (by decide) dX12_dist_2 ?_
    exact ⟨rfl, rfl⟩
  rcases rT_cons hx with ⟨c, rfl⟩ | ⟨h1, hx⟩
  · skip
    refine zJ_aload_n dX12_dist_0 rfl ?_
    refine zJ_iload_n dX12_dist_1 rfl ?_
    refine zP_callVv [_] _ lv_X12_211 (k_needNet (d := d - 1) hl (by omega) hs (of_decide_eq_true h0)) (zSt_ob hs 0 12 rfl) rfl (by omega) (Nat.le_of_ble_eq_true rfl) rfl dX12_dist_2 ?_
    refine zJ_aload_n dX12_dist_5 rfl ?_
    refine zJ_iload_n dX12_dist_6 rfl ?_
    refine zJ_iload_n dX12_dist_7 rfl ?_
    refine zP_thrV [_, _] _ lv_X12_248 (t_needPlace (d := d - 1) hl (by omega) hs (of_decide_eq_false c)) (zSt_ob hs 0 12 rfl) rfl (by omega) (Nat.le_of_ble_eq_true rfl) rfl (by decide) (by decide) dX12_dist_8 ?_
    exact ⟨rfl, rfl⟩
  cases hx
def r_spared (I : zI) (a1 a2 a3 : Int32) : List (Bool × Bool) := [(nNet I a1, true), (nPlace I a2 a3, true)]
theorem t_spared (hl : l.stackTraces = false) (hd : 12 ≤ d) (hs : zSt g) {a1 a2 a3 : Int32} {k : Bool} (hx : rT (r_spared I a1 a2 a3) = some k) : zT l Xi mX12_spared d 1 6 [.ref 0, .int a1, .int a2, .int a3] I g (nmR k) (cuR k I) := by
  refine zC_of hl rfl rfl rfl (Nat.le_of_ble_eq_true rfl) (zav_r (zSt_ob hs 0 12 rfl).1 (zav_i (zav_i (zav_i zav_0)))) ?_
  unfold r_spared at hx
  rcases rT_cons hx with ⟨c, rfl⟩ | ⟨h0, hx⟩
  · skip
    refine zJ_aload_n dX12_spared_0 rfl ?_
    refine zJ_iload_n dX12_spared_1 rfl ?_
    refine zP_thrV [_] _ lv_X12_211 (t_needNet (d := d - 1) hl (by omega) hs (of_decide_eq_false c)) (zSt_ob hs 0 12 rfl) rfl (by omega) (Nat.le_of_ble_eq_true rfl) rfl (by decide) (by decide) dX12_spared_2 ?_
    exact ⟨rfl, rfl⟩
  rcases rT_cons hx with ⟨c, rfl⟩ | ⟨h1, hx⟩
  · skip
    refine zJ_aload_n dX12_spared_0 rfl ?_
    refine zJ_iload_n dX12_spared_1 rfl ?_
    refine zP_callVv [_] _ lv_X12_211 (k_needNet (d := d - 1) hl (by omega) hs (of_decide_eq_true h0)) (zSt_ob hs 0 12 rfl) rfl (by omega) (Nat.le_of_ble_eq_true rfl) rfl dX12_spared_2 ?_
    refine zJ_aload_n dX12_spared_5 rfl ?_
    refine zJ_iload_n dX12_spared_6 rfl ?_
    refine zJ_iload_n dX12_spared_7 rfl ?_
    refine zP_thrV [_, _] _ lv_X12_248 (t_needPlace (d := d - 1) hl (by omega) hs (of_decide_eq_false c)) (zSt_ob hs 0 12 rfl) rfl (by omega) (Nat.le_of_ble_eq_true rfl) rfl (by decide) (by decide) dX12_spared_8 ?_
    exact ⟨rfl, rfl⟩
  cases hx
def r_jam (I : zI) (a1 : Int32) : List (Bool × Bool) := [(nRow I a1, true)]
theorem t_jam (hl : l.stackTraces = false) (hd : 12 ≤ d) (hs : zSt g) {a1 : Int32} {k : Bool} (hx : rT (r_jam I a1) = some k) : zT l Xi mX12_jam d 1 6 [.ref 0, .int a1] I g (nmR k) (cuR k I) := by
  refine zC_of hl rfl rfl rfl (Nat.le_of_ble_eq_true rfl) (zav_r (zSt_ob hs 0 12 rfl).1 (zav_i zav_0)) ?_
  unfold r_jam at hx
  rcases rT_cons hx with ⟨c, rfl⟩ | ⟨h0, hx⟩
  · skip
    refine zJ_aload_n dX12_jam_0 rfl ?_
    refine zJ_iload_n dX12_jam_1 rfl ?_
    refine zP_thrV [_] _ lv_X12_301 (t_needRow (d := d - 1) hl (by omega) hs (of_decide_eq_false c)) (zSt_ob hs 0 12 rfl) rfl (by omega) (Nat.le_of_ble_eq_true rfl) rfl (by decide) (by decide) dX12_jam_2 ?_
    exact ⟨rfl, rfl⟩
  cases hx
def r_ahead (I : zI) (a1 a2 : Int32) : List (Bool × Bool) := [(nRange a1 (nI 0) (nI 40), false), (nWhat a2 (nI 3), false)]
theorem t_ahead (hl : l.stackTraces = false) (hd : 12 ≤ d) (hs : zSt g) {a1 a2 : Int32} {k : Bool} (hx : rT (r_ahead I a1 a2) = some k) : zT l Xi mX12_ahead d 1 6 [.ref 0, .int a1, .int a2] I g (nmR k) (cuR k I) := by
  refine zC_of hl rfl rfl rfl (Nat.le_of_ble_eq_true rfl) (zav_r (zSt_ob hs 0 12 rfl).1 (zav_i (zav_i zav_0))) ?_
  unfold r_ahead at hx
  rcases rT_cons hx with ⟨c, rfl⟩ | ⟨h0, hx⟩
  · skip
    refine zJ_aload_n dX12_ahead_0 rfl ?_
    refine zJ_iload_n dX12_ahead_1 rfl ?_
    refine zJ_iconst (v := nI 0) dX12_ahead_2 rfl ?_
    refine zJ_bipush (v := nI 40) dX12_ahead_3 rfl ?_
    refine zP_thrV [_, _, _] _ lv_X12_276 (t_needRange (d := d - 1) hl (by omega) hs (of_decide_eq_false c)) (zSt_ob hs 0 12 rfl) rfl (by omega) (Nat.le_of_ble_eq_true rfl) rfl (by decide) (by decide) dX12_ahead_5 ?_
    exact ⟨rfl, rfl⟩
  rcases rT_cons hx with ⟨c, rfl⟩ | ⟨h1, hx⟩
  · skip
    refine zJ_aload_n dX12_ahead_0 rfl ?_
    refine zJ_iload_n dX12_ahead_1 rfl ?_
    refine zJ_iconst (v := nI 0) dX12_ahead_2 rfl ?_
    refine zJ_bipush (v := nI 40) dX12_ahead_3 rfl ?_
    refine zP_callVv [_, _, _] _ lv_X12_276 (k_needRange (d := d - 1) hl (by omega) hs (of_decide_eq_true h0)) (zSt_ob hs 0 12 rfl) rfl (by omega) (Nat.le_of_ble_eq_true rfl) rfl dX12_ahead_5 ?_
    refine zJ_aload_n dX12_ahead_8 rfl ?_
    refine zJ_iload_n dX12_ahead_9 rfl ?_
    refine zJ_iconst (v := nI 3) dX12_ahead_10 rfl ?_
    refine zP_thrV [_, _] _ lv_X12_176 (t_needWhat (d := d - 1) hl (by omega) hs (of_decide_eq_false c)) (zSt_ob hs 0 12 rfl) rfl (by omega) (Nat.le_of_ble_eq_true rfl) rfl (by decide) (by decide) dX12_ahead_11 ?_
    exact ⟨rfl, rfl⟩
  cases hx
def r_fewest (I : zI) (a1 : Int32) : List (Bool × Bool) := [(nNet I a1, true)]
theorem t_fewest (hl : l.stackTraces = false) (hd : 12 ≤ d) (hs : zSt g) {a1 : Int32} {k : Bool} (hx : rT (r_fewest I a1) = some k) : zT l Xi mX12_fewest d 1 6 [.ref 0, .int a1] I g (nmR k) (cuR k I) := by
  refine zC_of hl rfl rfl rfl (Nat.le_of_ble_eq_true rfl) (zav_r (zSt_ob hs 0 12 rfl).1 (zav_i zav_0)) ?_
  unfold r_fewest at hx
  rcases rT_cons hx with ⟨c, rfl⟩ | ⟨h0, hx⟩
  · skip
    refine zJ_aload_n dX12_fewest_0 rfl ?_
    refine zJ_iload_n dX12_fewest_1 rfl ?_
    refine zP_thrV [_] _ lv_X12_211 (t_needNet (d := d - 1) hl (by omega) hs (of_decide_eq_false c)) (zSt_ob hs 0 12 rfl) rfl (by omega) (Nat.le_of_ble_eq_true rfl) rfl (by decide) (by decide) dX12_fewest_2 ?_
    exact ⟨rfl, rfl⟩
  cases hx
def r_tree (I : zI) (a1 a2 : Int32) : List (Bool × Bool) := [(nNet I a1, true), (nRow I a2, true)]
theorem t_tree (hl : l.stackTraces = false) (hd : 12 ≤ d) (hs : zSt g) {a1 a2 : Int32} {k : Bool} (hx : rT (r_tree I a1 a2) = some k) : zT l Xi mX12_tree d 1 6 [.ref 0, .int a1, .int a2] I g (nmR k) (cuR k I) := by
  refine zC_of hl rfl rfl rfl (Nat.le_of_ble_eq_true rfl) (zav_r (zSt_ob hs 0 12 rfl).1 (zav_i (zav_i zav_0))) ?_
  unfold r_tree at hx
  rcases rT_cons hx with ⟨c, rfl⟩ | ⟨h0, hx⟩
  · skip
    refine zJ_aload_n dX12_tree_0 rfl ?_
    refine zJ_iload_n dX12_tree_1 rfl ?_
    refine zP_thrV [_] _ lv_X12_211 (t_needNet (d := d - 1) hl (by omega) hs (of_decide_eq_false c)) (zSt_ob hs 0 12 rfl) rfl (by omega) (Nat.le_of_ble_eq_true rfl) rfl (by decide) (by decide) dX12_tree_2 ?_
    exact ⟨rfl, rfl⟩
  rcases rT_cons hx with ⟨c, rfl⟩ | ⟨h1, hx⟩
  · skip
    refine zJ_aload_n dX12_tree_0 rfl ?_
    refine zJ_iload_n dX12_tree_1 rfl ?_
    refine zP_callVv [_] _ lv_X12_211 (k_needNet (d := d - 1) hl (by omega) hs (of_decide_eq_true h0)) (zSt_ob hs 0 12 rfl) rfl (by omega) (Nat.le_of_ble_eq_true rfl) rfl dX12_tree_2 ?_
    refine zJ_aload_n dX12_tree_5 rfl ?_
    refine zJ_iload_n dX12_tree_6 rfl ?_
    refine zP_thrV [_] _ lv_X12_301 (t_needRow (d := d - 1) hl (by omega) hs (of_decide_eq_false c)) (zSt_ob hs 0 12 rfl) rfl (by omega) (Nat.le_of_ble_eq_true rfl) rfl (by decide) (by decide) dX12_tree_7 ?_
    exact ⟨rfl, rfl⟩
  cases hx
def r_meet (I : zI) (a1 a2 : Int32) : List (Bool × Bool) := [(nNet I a1, true), (nNet I a2, true)]
theorem t_meet (hl : l.stackTraces = false) (hd : 12 ≤ d) (hs : zSt g) {a1 a2 : Int32} {k : Bool} (hx : rT (r_meet I a1 a2) = some k) : zT l Xi mX12_meet d 1 6 [.ref 0, .int a1, .int a2] I g (nmR k) (cuR k I) := by
  refine zC_of hl rfl rfl rfl (Nat.le_of_ble_eq_true rfl) (zav_r (zSt_ob hs 0 12 rfl).1 (zav_i (zav_i zav_0))) ?_
  unfold r_meet at hx
  rcases rT_cons hx with ⟨c, rfl⟩ | ⟨h0, hx⟩
  · skip
    refine zJ_aload_n dX12_meet_0 rfl ?_
    refine zJ_iload_n dX12_meet_1 rfl ?_
    refine zP_thrV [_] _ lv_X12_211 (t_needNet (d := d - 1) hl (by omega) hs (of_decide_eq_false c)) (zSt_ob hs 0 12 rfl) rfl (by omega) (Nat.le_of_ble_eq_true rfl) rfl (by decide) (by decide) dX12_meet_2 ?_
    exact ⟨rfl, rfl⟩
  rcases rT_cons hx with ⟨c, rfl⟩ | ⟨h1, hx⟩
  · skip
    refine zJ_aload_n dX12_meet_0 rfl ?_
    refine zJ_iload_n dX12_meet_1 rfl ?_
    refine zP_callVv [_] _ lv_X12_211 (k_needNet (d := d - 1) hl (by omega) hs (of_decide_eq_true h0)) (zSt_ob hs 0 12 rfl) rfl (by omega) (Nat.le_of_ble_eq_true rfl) rfl dX12_meet_2 ?_
    refine zJ_aload_n dX12_meet_5 rfl ?_
    refine zJ_iload_n dX12_meet_6 rfl ?_
    refine zP_thrV [_] _ lv_X12_211 (t_needNet (d := d - 1) hl (by omega) hs (of_decide_eq_false c)) (zSt_ob hs 0 12 rfl) rfl (by omega) (Nat.le_of_ble_eq_true rfl) rfl (by decide) (by decide) dX12_meet_7 ?_
    exact ⟨rfl, rfl⟩
  cases hx
def r_dear (I : zI) (a1 : Int32) : List (Bool × Bool) := [(nNet I a1, true)]
theorem t_dear (hl : l.stackTraces = false) (hd : 12 ≤ d) (hs : zSt g) {a1 : Int32} {k : Bool} (hx : rT (r_dear I a1) = some k) : zT l Xi mX12_dear d 1 6 [.ref 0, .int a1] I g (nmR k) (cuR k I) := by
  refine zC_of hl rfl rfl rfl (Nat.le_of_ble_eq_true rfl) (zav_r (zSt_ob hs 0 12 rfl).1 (zav_i zav_0)) ?_
  unfold r_dear at hx
  rcases rT_cons hx with ⟨c, rfl⟩ | ⟨h0, hx⟩
  · skip
    refine zJ_aload_n dX12_dear_0 rfl ?_
    refine zJ_iload_n dX12_dear_1 rfl ?_
    refine zP_thrV [_] _ lv_X12_211 (t_needNet (d := d - 1) hl (by omega) hs (of_decide_eq_false c)) (zSt_ob hs 0 12 rfl) rfl (by omega) (Nat.le_of_ble_eq_true rfl) rfl (by decide) (by decide) dX12_dear_2 ?_
    exact ⟨rfl, rfl⟩
  cases hx
def r_shed (I : zI) (a1 : Int32) : List (Bool × Bool) := [(nNet I a1, true)]
theorem t_shed (hl : l.stackTraces = false) (hd : 12 ≤ d) (hs : zSt g) {a1 : Int32} {k : Bool} (hx : rT (r_shed I a1) = some k) : zT l Xi mX12_shed d 1 6 [.ref 0, .int a1] I g (nmR k) (cuR k I) := by
  refine zC_of hl rfl rfl rfl (Nat.le_of_ble_eq_true rfl) (zav_r (zSt_ob hs 0 12 rfl).1 (zav_i zav_0)) ?_
  unfold r_shed at hx
  rcases rT_cons hx with ⟨c, rfl⟩ | ⟨h0, hx⟩
  · skip
    refine zJ_aload_n dX12_shed_0 rfl ?_
    refine zJ_iload_n dX12_shed_1 rfl ?_
    refine zP_thrV [_] _ lv_X12_211 (t_needNet (d := d - 1) hl (by omega) hs (of_decide_eq_false c)) (zSt_ob hs 0 12 rfl) rfl (by omega) (Nat.le_of_ble_eq_true rfl) rfl (by decide) (by decide) dX12_shed_2 ?_
    exact ⟨rfl, rfl⟩
  cases hx
def r_fits (I : zI) (a1 : Int32) : List (Bool × Bool) := [(nWhat a1 (nI 1), false)]
theorem t_fits (hl : l.stackTraces = false) (hd : 12 ≤ d) (hs : zSt g) {a1 : Int32} {k : Bool} (hx : rT (r_fits I a1) = some k) : zT l Xi mX12_fits d 1 6 [.ref 0, .int a1] I g (nmR k) (cuR k I) := by
  refine zC_of hl rfl rfl rfl (Nat.le_of_ble_eq_true rfl) (zav_r (zSt_ob hs 0 12 rfl).1 (zav_i zav_0)) ?_
  unfold r_fits at hx
  rcases rT_cons hx with ⟨c, rfl⟩ | ⟨h0, hx⟩
  · skip
    refine zJ_aload_n dX12_fits_0 rfl ?_
    refine zJ_iload_n dX12_fits_1 rfl ?_
    refine zJ_iconst (v := nI 1) dX12_fits_2 rfl ?_
    refine zP_thrV [_, _] _ lv_X12_176 (t_needWhat (d := d - 1) hl (by omega) hs (of_decide_eq_false c)) (zSt_ob hs 0 12 rfl) rfl (by omega) (Nat.le_of_ble_eq_true rfl) rfl (by decide) (by decide) dX12_fits_3 ?_
    exact ⟨rfl, rfl⟩
  cases hx
def r_look (I : zI) (a1 : Int32) : List (Bool × Bool) := [(nWhat a1 (nI 1), false)]
theorem t_look (hl : l.stackTraces = false) (hd : 12 ≤ d) (hs : zSt g) {a1 : Int32} {k : Bool} (hx : rT (r_look I a1) = some k) : zT l Xi mX12_look d 1 6 [.ref 0, .int a1] I g (nmR k) (cuR k I) := by
  refine zC_of hl rfl rfl rfl (Nat.le_of_ble_eq_true rfl) (zav_r (zSt_ob hs 0 12 rfl).1 (zav_i zav_0)) ?_
  unfold r_look at hx
  rcases rT_cons hx with ⟨c, rfl⟩ | ⟨h0, hx⟩
  · skip
    refine zJ_aload_n dX12_look_0 rfl ?_
    refine zJ_iload_n dX12_look_1 rfl ?_
    refine zJ_iconst (v := nI 1) dX12_look_2 rfl ?_
    refine zP_thrV [_, _] _ lv_X12_176 (t_needWhat (d := d - 1) hl (by omega) hs (of_decide_eq_false c)) (zSt_ob hs 0 12 rfl) rfl (by omega) (Nat.le_of_ble_eq_true rfl) rfl (by decide) (by decide) dX12_look_3 ?_
    exact ⟨rfl, rfl⟩
  cases hx
def r_crowd (I : zI) (a1 : Int32) : List (Bool × Bool) := [(nWhat a1 (nI 1), false)]
theorem t_crowd (hl : l.stackTraces = false) (hd : 12 ≤ d) (hs : zSt g) {a1 : Int32} {k : Bool} (hx : rT (r_crowd I a1) = some k) : zT l Xi mX12_crowd d 1 6 [.ref 0, .int a1] I g (nmR k) (cuR k I) := by
  refine zC_of hl rfl rfl rfl (Nat.le_of_ble_eq_true rfl) (zav_r (zSt_ob hs 0 12 rfl).1 (zav_i zav_0)) ?_
  unfold r_crowd at hx
  rcases rT_cons hx with ⟨c, rfl⟩ | ⟨h0, hx⟩
  · skip
    refine zJ_aload_n dX12_crowd_0 rfl ?_
    refine zJ_iload_n dX12_crowd_1 rfl ?_
    refine zJ_iconst (v := nI 1) dX12_crowd_2 rfl ?_
    refine zP_thrV [_, _] _ lv_X12_176 (t_needWhat (d := d - 1) hl (by omega) hs (of_decide_eq_false c)) (zSt_ob hs 0 12 rfl) rfl (by omega) (Nat.le_of_ble_eq_true rfl) rfl (by decide) (by decide) dX12_crowd_3 ?_
    exact ⟨rfl, rfl⟩
  cases hx
def r_tight (I : zI) (a1 : Int32) : List (Bool × Bool) := [(nWhat a1 (nI 1), false)]
theorem t_tight (hl : l.stackTraces = false) (hd : 12 ≤ d) (hs : zSt g) {a1 : Int32} {k : Bool} (hx : rT (r_tight I a1) = some k) : zT l Xi mX12_tight d 1 6 [.ref 0, .int a1] I g (nmR k) (cuR k I) := by
  refine zC_of hl rfl rfl rfl (Nat.le_of_ble_eq_true rfl) (zav_r (zSt_ob hs 0 12 rfl).1 (zav_i zav_0)) ?_
  unfold r_tight at hx
  rcases rT_cons hx with ⟨c, rfl⟩ | ⟨h0, hx⟩
  · skip
    refine zJ_aload_n dX12_tight_0 rfl ?_
    refine zJ_iload_n dX12_tight_1 rfl ?_
    refine zJ_iconst (v := nI 1) dX12_tight_2 rfl ?_
    refine zP_thrV [_, _] _ lv_X12_176 (t_needWhat (d := d - 1) hl (by omega) hs (of_decide_eq_false c)) (zSt_ob hs 0 12 rfl) rfl (by omega) (Nat.le_of_ble_eq_true rfl) rfl (by decide) (by decide) dX12_tight_3 ?_
    exact ⟨rfl, rfl⟩
  cases hx
def r_season (I : zI) (a1 a2 a3 a4 : Int32) : List (Bool × Bool) := [(nRange a2 (nI 1) (nI 40), false), (nRange a3 (nI 0) (nI 16), false), (nWhat a4 (nI 3), false)]
theorem t_season (hl : l.stackTraces = false) (hd : 12 ≤ d) (hs : zSt g) {a1 a2 a3 a4 : Int32} {k : Bool} (hx : rT (r_season I a1 a2 a3 a4) = some k) : zT l Xi mX12_season d 1 6 [.ref 0, .int a1, .int a2, .int a3, .int a4] I g (nmR k) (cuR k I) := by
  refine zC_of hl rfl rfl rfl (Nat.le_of_ble_eq_true rfl) (zav_r (zSt_ob hs 0 12 rfl).1 (zav_i (zav_i (zav_i (zav_i zav_0))))) ?_
  unfold r_season at hx
  rcases rT_cons hx with ⟨c, rfl⟩ | ⟨h0, hx⟩
  · skip
    refine zJ_aload_n dX12_season_0 rfl ?_
    refine zJ_iload_n dX12_season_1 rfl ?_
    refine zJ_iconst (v := nI 1) dX12_season_2 rfl ?_
    refine zJ_bipush (v := nI 40) dX12_season_3 rfl ?_
    refine zP_thrV [_, _, _] _ lv_X12_276 (t_needRange (d := d - 1) hl (by omega) hs (of_decide_eq_false c)) (zSt_ob hs 0 12 rfl) rfl (by omega) (Nat.le_of_ble_eq_true rfl) rfl (by decide) (by decide) dX12_season_5 ?_
    exact ⟨rfl, rfl⟩
  rcases rT_cons hx with ⟨c, rfl⟩ | ⟨h1, hx⟩
  · skip
    refine zJ_aload_n dX12_season_0 rfl ?_
    refine zJ_iload_n dX12_season_1 rfl ?_
    refine zJ_iconst (v := nI 1) dX12_season_2 rfl ?_
    refine zJ_bipush (v := nI 40) dX12_season_3 rfl ?_
    refine zP_callVv [_, _, _] _ lv_X12_276 (k_needRange (d := d - 1) hl (by omega) hs (of_decide_eq_true h0)) (zSt_ob hs 0 12 rfl) rfl (by omega) (Nat.le_of_ble_eq_true rfl) rfl dX12_season_5 ?_
    refine zJ_aload_n dX12_season_8 rfl ?_
    refine zJ_iload_n dX12_season_9 rfl ?_
    refine zJ_iconst (v := nI 0) dX12_season_10 rfl ?_
    refine zJ_bipush (v := nI 16) dX12_season_11 rfl ?_
    refine zP_thrV [_, _, _] _ lv_X12_276 (t_needRange (d := d - 1) hl (by omega) hs (of_decide_eq_false c)) (zSt_ob hs 0 12 rfl) rfl (by omega) (Nat.le_of_ble_eq_true rfl) rfl (by decide) (by decide) dX12_season_13 ?_
    exact ⟨rfl, rfl⟩
  rcases rT_cons hx with ⟨c, rfl⟩ | ⟨h2, hx⟩
  · skip
    refine zJ_aload_n dX12_season_0 rfl ?_
    refine zJ_iload_n dX12_season_1 rfl ?_
    refine zJ_iconst (v := nI 1) dX12_season_2 rfl ?_
    refine zJ_bipush (v := nI 40) dX12_season_3 rfl ?_
    refine zP_callVv [_, _, _] _ lv_X12_276 (k_needRange (d := d - 1) hl (by omega) hs (of_decide_eq_true h0)) (zSt_ob hs 0 12 rfl) rfl (by omega) (Nat.le_of_ble_eq_true rfl) rfl dX12_season_5 ?_
    refine zJ_aload_n dX12_season_8 rfl ?_
    refine zJ_iload_n dX12_season_9 rfl ?_
    refine zJ_iconst (v := nI 0) dX12_season_10 rfl ?_
    refine zJ_bipush (v := nI 16) dX12_season_11 rfl ?_
    refine zP_callVv [_, _, _] _ lv_X12_276 (k_needRange (d := d - 1) hl (by omega) hs (of_decide_eq_true h1)) (zSt_ob hs 0 12 rfl) rfl (by omega) (Nat.le_of_ble_eq_true rfl) rfl dX12_season_13 ?_
    refine zJ_aload_n dX12_season_16 rfl ?_
    refine zJ_iload dX12_season_17 rfl ?_
    refine zJ_iconst (v := nI 3) dX12_season_19 rfl ?_
    refine zP_thrV [_, _] _ lv_X12_176 (t_needWhat (d := d - 1) hl (by omega) hs (of_decide_eq_false c)) (zSt_ob hs 0 12 rfl) rfl (by omega) (Nat.le_of_ble_eq_true rfl) rfl (by decide) (by decide) dX12_season_20 ?_
    exact ⟨rfl, rfl⟩
  cases hx
def r_span (I : zI) (a1 a2 a3 a4 a5 a6 : Int32) : List (Bool × Bool) := [(nNet I a6, true), (nRange a2 (nI 1) (nI 5), false), (nRange a3 (nI 1) (nI 40), false), (nRange a4 (nI 0) (nI 16), false), (nWhat a5 (nI 2), false)]
theorem t_span (hl : l.stackTraces = false) (hd : 12 ≤ d) (hs : zSt g) {a1 a2 a3 a4 a5 a6 : Int32} {k : Bool} (hx : rT (r_span I a1 a2 a3 a4 a5 a6) = some k) : zT l Xi mX12_span d 1 6 [.ref 0, .int a1, .int a2, .int a3, .int a4, .int a5, .int a6] I g (nmR k) (cuR k I) := by
  refine zC_of hl rfl rfl rfl (Nat.le_of_ble_eq_true rfl) (zav_r (zSt_ob hs 0 12 rfl).1 (zav_i (zav_i (zav_i (zav_i (zav_i (zav_i zav_0))))))) ?_
  unfold r_span at hx
  rcases rT_cons hx with ⟨c, rfl⟩ | ⟨h0, hx⟩
  · skip
    refine zJ_aload_n dX12_span_0 rfl ?_
    refine zJ_iload dX12_span_1 rfl ?_
    refine zP_thrV [_] _ lv_X12_211 (t_needNet (d := d - 1) hl (by omega) hs (of_decide_eq_false c)) (zSt_ob hs 0 12 rfl) rfl (by omega) (Nat.le_of_ble_eq_true rfl) rfl (by decide) (by decide) dX12_span_3 ?_
    exact ⟨rfl, rfl⟩
  rcases rT_cons hx with ⟨c, rfl⟩ | ⟨h1, hx⟩
  · skip
    refine zJ_aload_n dX12_span_0 rfl ?_
    refine zJ_iload dX12_span_1 rfl ?_
    refine zP_callVv [_] _ lv_X12_211 (k_needNet (d := d - 1) hl (by omega) hs (of_decide_eq_true h0)) (zSt_ob hs 0 12 rfl) rfl (by omega) (Nat.le_of_ble_eq_true rfl) rfl dX12_span_3 ?_
    refine zJ_aload_n dX12_span_6 rfl ?_
    refine zJ_iload_n dX12_span_7 rfl ?_
    refine zJ_iconst (v := nI 1) dX12_span_8 rfl ?_
    refine zJ_iconst (v := nI 5) dX12_span_9 rfl ?_
    refine zP_thrV [_, _, _] _ lv_X12_276 (t_needRange (d := d - 1) hl (by omega) hs (of_decide_eq_false c)) (zSt_ob hs 0 12 rfl) rfl (by omega) (Nat.le_of_ble_eq_true rfl) rfl (by decide) (by decide) dX12_span_10 ?_
    exact ⟨rfl, rfl⟩
  rcases rT_cons hx with ⟨c, rfl⟩ | ⟨h2, hx⟩
  · skip
    refine zJ_aload_n dX12_span_0 rfl ?_
    refine zJ_iload dX12_span_1 rfl ?_
    refine zP_callVv [_] _ lv_X12_211 (k_needNet (d := d - 1) hl (by omega) hs (of_decide_eq_true h0)) (zSt_ob hs 0 12 rfl) rfl (by omega) (Nat.le_of_ble_eq_true rfl) rfl dX12_span_3 ?_
    refine zJ_aload_n dX12_span_6 rfl ?_
    refine zJ_iload_n dX12_span_7 rfl ?_
    refine zJ_iconst (v := nI 1) dX12_span_8 rfl ?_
    refine zJ_iconst (v := nI 5) dX12_span_9 rfl ?_
    refine zP_callVv [_, _, _] _ lv_X12_276 (k_needRange (d := d - 1) hl (by omega) hs (of_decide_eq_true h1)) (zSt_ob hs 0 12 rfl) rfl (by omega) (Nat.le_of_ble_eq_true rfl) rfl dX12_span_10 ?_
    refine zJ_aload_n dX12_span_13 rfl ?_
    refine zJ_iload_n dX12_span_14 rfl ?_
    refine zJ_iconst (v := nI 1) dX12_span_15 rfl ?_
    refine zJ_bipush (v := nI 40) dX12_span_16 rfl ?_
    refine zP_thrV [_, _, _] _ lv_X12_276 (t_needRange (d := d - 1) hl (by omega) hs (of_decide_eq_false c)) (zSt_ob hs 0 12 rfl) rfl (by omega) (Nat.le_of_ble_eq_true rfl) rfl (by decide) (by decide) dX12_span_18 ?_
    exact ⟨rfl, rfl⟩
  rcases rT_cons hx with ⟨c, rfl⟩ | ⟨h3, hx⟩
  · skip
    refine zJ_aload_n dX12_span_0 rfl ?_
    refine zJ_iload dX12_span_1 rfl ?_
    refine zP_callVv [_] _ lv_X12_211 (k_needNet (d := d - 1) hl (by omega) hs (of_decide_eq_true h0)) (zSt_ob hs 0 12 rfl) rfl (by omega) (Nat.le_of_ble_eq_true rfl) rfl dX12_span_3 ?_
    refine zJ_aload_n dX12_span_6 rfl ?_
    refine zJ_iload_n dX12_span_7 rfl ?_
    refine zJ_iconst (v := nI 1) dX12_span_8 rfl ?_
    refine zJ_iconst (v := nI 5) dX12_span_9 rfl ?_
    refine zP_callVv [_, _, _] _ lv_X12_276 (k_needRange (d := d - 1) hl (by omega) hs (of_decide_eq_true h1)) (zSt_ob hs 0 12 rfl) rfl (by omega) (Nat.le_of_ble_eq_true rfl) rfl dX12_span_10 ?_
    refine zJ_aload_n dX12_span_13 rfl ?_
    refine zJ_iload_n dX12_span_14 rfl ?_
    refine zJ_iconst (v := nI 1) dX12_span_15 rfl ?_
    refine zJ_bipush (v := nI 40) dX12_span_16 rfl ?_
    refine zP_callVv [_, _, _] _ lv_X12_276 (k_needRange (d := d - 1) hl (by omega) hs (of_decide_eq_true h2)) (zSt_ob hs 0 12 rfl) rfl (by omega) (Nat.le_of_ble_eq_true rfl) rfl dX12_span_18 ?_
    refine zJ_aload_n dX12_span_21 rfl ?_
    refine zJ_iload dX12_span_22 rfl ?_
    refine zJ_iconst (v := nI 0) dX12_span_24 rfl ?_
    refine zJ_bipush (v := nI 16) dX12_span_25 rfl ?_
    refine zP_thrV [_, _, _] _ lv_X12_276 (t_needRange (d := d - 1) hl (by omega) hs (of_decide_eq_false c)) (zSt_ob hs 0 12 rfl) rfl (by omega) (Nat.le_of_ble_eq_true rfl) rfl (by decide) (by decide) dX12_span_27 ?_
    exact ⟨rfl, rfl⟩
  rcases rT_cons hx with ⟨c, rfl⟩ | ⟨h4, hx⟩
  · skip
    refine zJ_aload_n dX12_span_0 rfl ?_
    refine zJ_iload dX12_span_1 rfl ?_
    refine zP_callVv [_] _ lv_X12_211 (k_needNet (d := d - 1) hl (by omega) hs (of_decide_eq_true h0)) (zSt_ob hs 0 12 rfl) rfl (by omega) (Nat.le_of_ble_eq_true rfl) rfl dX12_span_3 ?_
    refine zJ_aload_n dX12_span_6 rfl ?_
    refine zJ_iload_n dX12_span_7 rfl ?_
    refine zJ_iconst (v := nI 1) dX12_span_8 rfl ?_
    refine zJ_iconst (v := nI 5) dX12_span_9 rfl ?_
    refine zP_callVv [_, _, _] _ lv_X12_276 (k_needRange (d := d - 1) hl (by omega) hs (of_decide_eq_true h1)) (zSt_ob hs 0 12 rfl) rfl (by omega) (Nat.le_of_ble_eq_true rfl) rfl dX12_span_10 ?_
    refine zJ_aload_n dX12_span_13 rfl ?_
    refine zJ_iload_n dX12_span_14 rfl ?_
    refine zJ_iconst (v := nI 1) dX12_span_15 rfl ?_
    refine zJ_bipush (v := nI 40) dX12_span_16 rfl ?_
    refine zP_callVv [_, _, _] _ lv_X12_276 (k_needRange (d := d - 1) hl (by omega) hs (of_decide_eq_true h2)) (zSt_ob hs 0 12 rfl) rfl (by omega) (Nat.le_of_ble_eq_true rfl) rfl dX12_span_18 ?_
    refine zJ_aload_n dX12_span_21 rfl ?_
    refine zJ_iload dX12_span_22 rfl ?_
    refine zJ_iconst (v := nI 0) dX12_span_24 rfl ?_
    refine zJ_bipush (v := nI 16) dX12_span_25 rfl ?_
    refine zP_callVv [_, _, _] _ lv_X12_276 (k_needRange (d := d - 1) hl (by omega) hs (of_decide_eq_true h3)) (zSt_ob hs 0 12 rfl) rfl (by omega) (Nat.le_of_ble_eq_true rfl) rfl dX12_span_27 ?_
    refine zJ_aload_n dX12_span_30 rfl ?_
    refine zJ_iload dX12_span_31 rfl ?_
    refine zJ_iconst (v := nI 2) dX12_span_33 rfl ?_
    refine zP_thrV [_, _] _ lv_X12_176 (t_needWhat (d := d - 1) hl (by omega) hs (of_decide_eq_false c)) (zSt_ob hs 0 12 rfl) rfl (by omega) (Nat.le_of_ble_eq_true rfl) rfl (by decide) (by decide) dX12_span_34 ?_
    exact ⟨rfl, rfl⟩
  cases hx
end ZX12h
