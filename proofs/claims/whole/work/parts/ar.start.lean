/-! ===== the constructors as a whole ===== -/
section ZStart
variable {l : Launch} {Xi : zXi} {d : Nat} {I : zI} {g : zG}
/-- the class's own things stand -/
def zSc (g : zG) : Prop := 74 ≤ g.1 ∧ (∀ k, k < 74 → g.2.1 k = zS0 k) ∧ ∀ k j a, k < 74 → zJ0 k j = some a → g.2.2.1 k j = some a
theorem zSc_ob {g : zG} (hs : zSc g) (n ci : Nat) (h : zS0 n = .inl ci) (hn : n < 74 := by decide) : zOb g n ci := ⟨Nat.lt_of_lt_of_le hn hs.1, (hs.2.1 n hn).trans h⟩
theorem zSc_ar {g : zG} (hs : zSc g) (n N : Nat) (h : zS0 n = .inr (0, N)) (hn : n < 74 := by decide) : zAr g n N := ⟨Nat.lt_of_lt_of_le hn hs.1, (hs.2.1 n hn).trans h⟩
theorem zSc_rf {g : zG} (hs : zSc g) (n j a : Nat) (h : zJ0 n j = some a) (hn : n < 74 := by decide) : zRf g n j a := hs.2.2 n j a hn h
theorem zSc_board {g : zG} (hs : zSc g) : zK g 3 0 zLt_Board := by
  refine ⟨zSc_ob hs 3 0 rfl, fun k q hq => ?_⟩
  match k, hq with
  | 0, hq => cases hq; exact ⟨zSc_rf hs 3 4 4 rfl, zSc_ar hs 4 6 rfl⟩
  | 1, hq => cases hq; exact ⟨zSc_rf hs 3 5 5 rfl, zSc_ar hs 5 6 rfl⟩
  | 2, hq => cases hq; exact ⟨zSc_rf hs 3 6 6 rfl, zSc_ar hs 6 6 rfl⟩
  | 3, hq => cases hq; exact ⟨zSc_rf hs 3 7 7 rfl, zSc_ar hs 7 24 rfl⟩
  | 4, hq => cases hq; exact ⟨zSc_rf hs 3 8 8 rfl, zSc_ar hs 8 64 rfl⟩
  | 5, hq => cases hq; exact ⟨zSc_rf hs 3 9 9 rfl, zSc_ar hs 9 64 rfl⟩
  | 6, hq => cases hq; exact ⟨zSc_rf hs 3 10 10 rfl, zSc_ar hs 10 64 rfl⟩
  | 7, hq => cases hq; exact ⟨zSc_rf hs 3 11 11 rfl, zSc_ar hs 11 256 rfl⟩
  | k + 8, hq => simp [zLt_Board] at hq
theorem zSc_law {g : zG} (hs : zSc g) : zK g 21 5 zLt_Law := by
  refine ⟨zSc_ob hs 21 5 rfl, fun k q hq => ?_⟩
  match k, hq with
  | 0, hq => cases hq; exact ⟨zSc_rf hs 21 0 22 rfl, zSc_ar hs 22 8 rfl⟩
  | 1, hq => cases hq; exact ⟨zSc_rf hs 21 1 23 rfl, zSc_ar hs 23 150 rfl⟩
  | 2, hq => cases hq; exact ⟨zSc_rf hs 21 2 24 rfl, zSc_ar hs 24 32 rfl⟩
  | k + 3, hq => simp [zLt_Law] at hq
theorem zSc_book {g : zG} (hs : zSc g) : zK g 29 1 zLt_Book := by
  refine ⟨zSc_ob hs 29 1 rfl, fun k q hq => ?_⟩
  match k, hq with
  | 0, hq => cases hq; exact ⟨zSc_rf hs 29 1 30 rfl, zSc_ar hs 30 8 rfl⟩
  | 1, hq => cases hq; exact ⟨zSc_rf hs 29 2 31 rfl, zSc_ar hs 31 8 rfl⟩
  | k + 2, hq => simp [zLt_Book] at hq
theorem zSc_state {g : zG} (hs : zSc g) : zK g 62 8 zLt_State := by
  refine ⟨zSc_ob hs 62 8 rfl, fun k q hq => ?_⟩
  match k, hq with
  | 0, hq => cases hq; exact ⟨zSc_rf hs 62 0 63 rfl, zSc_ar hs 63 384 rfl⟩
  | 1, hq => cases hq; exact ⟨zSc_rf hs 62 1 64 rfl, zSc_ar hs 64 64 rfl⟩
  | 2, hq => cases hq; exact ⟨zSc_rf hs 62 2 65 rfl, zSc_ar hs 65 64 rfl⟩
  | 3, hq => cases hq; exact ⟨zSc_rf hs 62 3 66 rfl, zSc_ar hs 66 64 rfl⟩
  | 4, hq => cases hq; exact ⟨zSc_rf hs 62 4 67 rfl, zSc_ar hs 67 6 rfl⟩
  | k + 5, hq => simp [zLt_State] at hq
theorem k_shelfForget0 (hl : l.stackTraces = false) (hd : 1 ≤ d) (hs : zSc g) : zD l Xi mX7_forget d [.ref 57] I g none (zup (zup I 57 0 (nI 0)) 57 1 (nI 0)) := by
  refine zC_of hl rfl rfl rfl (Nat.le_of_ble_eq_true rfl) (zav_r (zSc_ob hs 57 7 rfl).1 zav_0) ?_
  refine zJ_aload_n dX7_forget_0 rfl ?_
  refine zJ_iconst (v := nI 0) dX7_forget_1 rfl ?_
  refine zP_puti lf_X7_27 (zSc_ob hs 57 7 rfl) rfl dX7_forget_2 ?_
  refine zJ_aload_n dX7_forget_5 rfl ?_
  refine zJ_iconst (v := nI 0) dX7_forget_6 rfl ?_
  refine zP_puti lf_X7_31 (zSc_ob hs 57 7 rfl) rfl dX7_forget_7 ?_
  refine zJ_vret rfl dX7_forget_10 ?_
  exact ⟨rfl, rfl⟩
set_option maxHeartbeats 1000000 in
theorem k_startAnew0 (hl : l.stackTraces = false) (hd : 6 ≤ d) (hs : zSc g) {S : sT} {r : zRb} (hr : cFin I 3 r) (hok : rbOk r) (ht : tp I 0 S.1.2.1) (hf : I 1 6 = -1) (hsh : ∃ lab, shG g lab) (hns : I 0 16 = S.2.2.2.2.2.2.2.1) (hwr : I 0 17 = S.2.2.2.2.2.2.2.2) : zEv l Xi mX12_startAnew d [.ref 0] I g (fun J => fC I J ∧ ∃ lim crt, (∀ n, n < rN r → lim n = nI (rlm r n) ∧ crt n = nI (rcr r n)) ∧ cI J g (bdS S r lim crt) ∧ J 3 2 = nI (rN r)) := by
  refine zC_of hl rfl rfl rfl (Nat.le_of_ble_eq_true rfl) (zav_r (zSc_ob hs 0 12 rfl).1 zav_0) ?_
  obtain ⟨⟨c1, c2, c3, c4⟩, c5, c6, c7, c8, c9, c10, c11⟩ := hr
  obtain ⟨sr, sf⟩ := start_row (crt := I 4) c9 (fun n _ => rfl)
  refine zJ_aload_n dX12_startAnew_0 rfl ?_
  refine zP_getr lf_X12_97 (zSc_ob hs 0 12 rfl) rfl (zSc_rf hs 0 13 62 rfl) dX12_startAnew_1 ?_
  refine zJ_aload_n dX12_startAnew_4 rfl ?_
  refine zP_getr lf_X12_19 (zSc_ob hs 0 12 rfl) rfl (zSc_rf hs 0 1 3 rfl) dX12_startAnew_5 ?_
  refine zP_callVv [_] _ lv_X12_359 (k_X8_start (d := d - 1) hl (by omega) (zSc_state hs) (zSc_board hs)) (zSc_ob hs 62 8 rfl) rfl (by omega) (Nat.le_of_ble_eq_true rfl) rfl dX12_startAnew_8 ?_
  refine zJ_aload_n dX12_startAnew_11 rfl ?_
  refine zP_getr lf_X12_29 (zSc_ob hs 0 12 rfl) rfl (zSc_rf hs 0 3 21 rfl) dX12_startAnew_12 ?_
  refine zP_ecallVv [] _ lv_X12_362 (k_lawForget (d := d - 1) hl (by omega) (zSc_law hs)) (zSc_ob hs 21 5 rfl) rfl (by omega) (Nat.le_of_ble_eq_true rfl) rfl dX12_startAnew_15 (fun J1 h1 => ?_)
  refine zJ_aload_n dX12_startAnew_18 rfl ?_
  refine zP_getr lf_X12_39 (zSc_ob hs 0 12 rfl) rfl (zSc_rf hs 0 5 29 rfl) dX12_startAnew_19 ?_
  refine zP_callVv [] _ lv_X12_365 (k_X1_forget (d := d - 1) hl (by omega) (zSc_book hs)) (zSc_ob hs 29 1 rfl) rfl (by omega) (Nat.le_of_ble_eq_true rfl) rfl dX12_startAnew_22 ?_
  refine zJ_aload_n dX12_startAnew_25 rfl ?_
  refine zP_getr lf_X12_90 (zSc_ob hs 0 12 rfl) rfl (zSc_rf hs 0 12 57 rfl) dX12_startAnew_26 ?_
  refine zP_callVv [] _ lv_X12_366 (k_shelfForget0 (d := d - 1) hl (by omega) hs) (zSc_ob hs 57 7 rfl) rfl (by omega) (Nat.le_of_ble_eq_true rfl) rfl dX12_startAnew_29 ?_
  refine zJ_aload_n dX12_startAnew_32 rfl ?_
  refine zJ_iconst (v := nI 0) dX12_startAnew_33 rfl ?_
  refine zP_puti lf_X12_160 (zSc_ob hs 0 12 rfl) rfl dX12_startAnew_34 ?_
  refine zJ_vret rfl dX12_startAnew_37 ?_
  obtain ⟨g1, g2, g3, g4⟩ := h1
  obtain ⟨J, hJ⟩ : ∃ J, zup (zup (zup (zup J1 29 0 (nI 0)) 57 0 (nI 0)) 57 1 (nI 0)) 0 15 (nI 0) = J := ⟨_, rfl⟩
  have e : ∀ a, a ≠ 0 → a ≠ 21 → a ≠ 23 → a ≠ 29 → a ≠ 57 → (a < 62 ∨ 67 < a) → J a = I a := fun a p0 p1 p2 p3 p4 p5 => by rw [← hJ, zup_row p0, zup_row p4, zup_row p4, zup_row p3, g1 a p1 p2, sf a p5]
  have e62 : ∀ a, 62 ≤ a → a ≤ 67 → J a = f_start I 62 3 a := fun a p1 p2 => by rw [← hJ, zup_row (by omega), zup_row (by omega), zup_row (by omega), zup_row (by omega), g1 a (by omega) (by omega)]
  have e0 : ∀ k, k ≠ 15 → J 0 k = I 0 k := fun k hk => by rw [← hJ, zup_same, upd_ne hk, zup_row (by decide), zup_row (by decide), zup_row (by decide), g1 0 (by decide) (by decide), sf 0 (by decide)]
  refine ⟨rfl, _, rfl, ?_⟩
  first
    | rw [hJ]
    | skip
  refine ⟨fun a p1 p2 => e a (by omega) (by omega) (by omega) (by omega) (by omega) (by omega), I 5, I 4, fun n hn => ⟨(c5 n hn).2, (c5 n hn).1⟩, ⟨tp_of ht (e 1 (by decide) (by decide) (by decide) (by decide) (by decide) (by decide)) (e 2 (by decide) (by decide) (by decide) (by decide) (by decide) (by decide)), by rw [e 1 (by decide) (by decide) (by decide) (by decide) (by decide) (by decide)]; exact hf, ?_, zRow_of sr (fun a p1 p2 => e62 a p1 p2), ⟨?_, Nat.zero_le _, fun i hi => absurd hi (Nat.not_lt_zero _)⟩, ⟨⟨?_, Nat.zero_le _, ?_, Nat.zero_le _⟩, hsh, fun i hi => absurd hi (Nat.not_lt_zero _), fun k hk => absurd hk (Nat.not_lt_zero _)⟩, ?_, ?_, ?_⟩, ?_⟩
  · have e' : ∀ a, 3 ≤ a → a ≤ 11 → J a = I a := fun a p1 p2 => e a (by omega) (by omega) (by omega) (by omega) (by omega) (by omega)
    have hb := bdW_ok (lim := I 5) hok
    refine ⟨hb, ⟨by rw [e' 3 (by omega) (by omega)]; exact c1, by rw [e' 3 (by omega) (by omega)]; exact c2, by rw [e' 3 (by omega) (by omega)]; exact c3, hok.1.2.1, hok.1.2.2.2.1, hok.1.2.2.2.2.1, fun n hn => ⟨by rw [e' (3 + 3) (by omega) (by omega)]; exact c6 n hn, hb.2.2.2.2.2.1 n hn⟩, fun n i hn hi => ⟨by rw [e' (3 + 4) (by omega) (by omega)]; exact c7 n i hn hi, (hb.2.2.2.2.2.2.1 n i hn hi).1⟩⟩, by rw [e' 3 (by omega) (by omega)]; exact c4, fun n hn => by rw [e' 5 (by omega) (by omega)]; rfl, fun p hp => by rw [e' 9 (by omega) (by omega)]; exact c8 p hp, fun p hp => ?_, fun p v hp hv => by rw [e' 11 (by omega) (by omega)]; exact c11 p v hp hv, ?_, fun i hi => ?_, fun n h1 h2 => ?_⟩
    · rw [e' 8 (by omega) (by omega), show (8 : Nat) = 3 + 5 from rfl, c10 p hp]
      exact bitF_congr (fun k hk => pbB_eq.symm)
    · rw [← hJ, zup_row (by decide), zup_row (by decide), zup_row (by decide), zup_row (by decide)]; exact g3
    · rw [← hJ, zup_row (by decide), zup_row (by decide), zup_row (by decide), zup_row (by decide)]; exact g4 i hi
    · have h9 : fpc r n ≤ rpc r n := fpc_le
      rw [(hok.2.1 n h2).2 h1] at h9
      show fpc r n = 0
      omega
  · rw [← hJ, zup_row (by decide), zup_row (by decide), zup_row (by decide), zup_same, upd_at]; rfl
  · rw [← hJ, zup_row (by decide), zup_same, upd_ne (by decide), zup_same, upd_at]; rfl
  · rw [← hJ, zup_row (by decide), zup_same, upd_at]; rfl
  · rw [← hJ, zup_same, upd_at]; rfl
  · rw [e0 16 (by decide)]; exact hns
  · rw [e0 17 (by decide)]; exact hwr
  · rw [e 3 (by decide) (by decide) (by decide) (by decide) (by decide) (by decide)]; exact c3
theorem pG_zSc (G : pG 74 [] g) : zSc g := ⟨by rw [G.1]; omega, G.2.2.1, fun k j a hk hz => G.2.2.2.1 k j a hk hz (Or.inl (fun q hq => by cases hq))⟩
theorem pG_zSt (G : pG 642 [] g) : zSt g := ⟨by rw [G.1]; omega, G.2.2.1, fun k j a hk hz => G.2.2.2.1 k j a hk hz (Or.inl (fun q hq => by cases hq))⟩
theorem pG_sh {n : Nat} {uc : List (Nat × List Nat)} (G : pG n uc g) (hn : 60 < n) : ∃ lab, shG g lab := ⟨fun _ => 0, ⟨(fun i a hi h => by rw [G.2.2.2.2 58 i (by omega) (by omega)] at h; cases h), (fun k a hk h => by rw [G.2.2.2.2 59 k (by omega) (by omega)] at h; cases h), (fun k i a hk hi h => by rw [G.2.2.2.2 60 _ (by omega) (by omega)] at h; cases h)⟩⟩
/-- nothing yet -/
def S00 : sT := ((0, (fun _ => 0), -1), bdW rb0 (fun _ => 0), bdR rb0 (fun _ => 0), [], (0, fun _ _ => 0), (0, (fun _ _ => 0), (fun _ => 0), fun _ _ _ => 0), (0, 0, 0))
theorem cI_g {g' : zG} {S : sT} {r : zRb} {lim crt : Nat → Int32} (h : cI I g (bdS S r lim crt)) (hs : ∃ lab, shG g' lab) : cI I g' (bdS S r lim crt) := by
  obtain ⟨h1, h2, h3, h4, h5, h6, h7⟩ := h
  exact ⟨h1, h2, h3, h4, h5, ⟨h6.1, hs, fun i hi => absurd hi (Nat.not_lt_zero _), fun k hk => absurd hk (Nat.not_lt_zero _)⟩, h7⟩
theorem cFin_of {J : zI} {r : zRb} (h : cFin I 3 r) (e : ∀ a, 3 ≤ a → a ≤ 11 → J a = I a) : cFin J 3 r := by
  unfold cFin at *
  rw [e 3 (by omega) (by omega), e (3 + 1) (by omega) (by omega), e (3 + 2) (by omega) (by omega), e (3 + 3) (by omega) (by omega), e (3 + 4) (by omega) (by omega), e (3 + 5) (by omega) (by omega), e (3 + 6) (by omega) (by omega), e (3 + 7) (by omega) (by omega), e (3 + 8) (by omega) (by omega)]
  exact h
theorem rI_bd {J K : zI} {S : sT} {r : zRb} {lim crt : Nat → Int32} (hok : rbOk r) (kf : fba J K) (k0 : ∀ k, k = 20 ∨ k = 35 ∨ k = 36 ∨ k = 37 ∨ k = 38 → K 74 k = nI 0) (kt : K 78 0 = nI (rC r) ∧ K 78 1 = nI (rR r) ∧ K 78 2 = nI (rN r) ∧ K 78 3 = nI (rG r)) (kn : ∀ n, n < rN r → K (89 + 1 + n) 1 = nI (rlm r n) ∧ pnQ K n (fkp r n)) (kw : ∀ p, p < 64 → K 81 p = nI (rwd r p)) (kr1 : ∀ k, k < 448 → K 533 k = if k < 384 then -1 else 0) (kr2 : ∀ p, p < 64 → K 533 (448 + p) = if fwl r p then 1 else 0) (kr3 : ∀ n, n < rN r → K 533 (512 + n) = nI (rcr r n)) (kr4 : K 533 518 = 0) (j1 : J 74 1 = nI 0) (j3 : J 74 3 = -1) (j6 : J 76 0 = S.2.2.2.2.2.2.2.1 ∧ J 76 1 = S.2.2.2.2.2.2.2.2) (hlc : ∀ n, n < rN r → lim n = nI (rlm r n) ∧ crt n = nI (rcr r n)) : rI K (bdS S r lim crt) := by
  have hbW := bdW_ok (lim := lim) hok
  unfold bdS
  refine ⟨⟨by rw [kf.2 1 (by decide) (by decide) (by decide) (by decide) (by decide)]; exact j1, Nat.zero_le _, fun k hk => absurd hk (Nat.not_lt_zero _)⟩, by rw [kf.2 3 (by decide) (by decide) (by decide) (by decide) (by decide)]; exact j3, ⟨hbW, kt, kw, fun n hn => ?_, fun n i hn hi => ?_, Or.inl ⟨k0 20 (by decide), rfl, fun _ _ => rfl⟩⟩, ⟨fun k hk => ?_, fun n hn => ?_, ?_⟩, ⟨k0 35 (by decide), Nat.zero_le _, fun i hi => absurd hi (Nat.not_lt_zero _)⟩, ⟨k0 36 (by decide), Nat.zero_le _, fun i hi => absurd hi (Nat.not_lt_zero _)⟩, ⟨k0 38 (by decide), Nat.zero_le _, fun i hi => absurd hi (Nat.not_lt_zero _)⟩, k0 37 (by decide), ?_, ?_⟩
  · have hn2 : n < rN r := hn
    exact ⟨(kn n hn2).1.trans (hlc n hn2).1.symm, (kn n hn2).2.1⟩
  · have hn2 : n < rN r := hn
    exact ((kn n hn2).2.2.2 i hi).1
  · show K 533 k = bdR r crt k
    unfold bdR
    by_cases z : k < 384
    · rw [if_pos z, kr1 k (by omega), if_pos z]
    · rw [if_neg z]
      by_cases z2 : k < 448
      · rw [if_pos z2, kr1 k z2, if_neg z]
      · rw [if_neg z2, if_pos hk]
        have h9 := kr2 (k - 448) (by omega)
        rw [show 448 + (k - 448) = k by omega] at h9
        exact h9
  · have hn2 : n < rN r := hn
    have hn6 := hok.1.2.2.2.2.1
    show K 533 (512 + n) = bdR r crt (512 + n)
    unfold bdR
    rw [if_neg (by omega), if_neg (by omega), if_neg (by omega), if_pos (by omega), Nat.add_sub_cancel_left, kr3 n hn2]
    exact (hlc n hn2).2.symm
  · show K 533 518 = bdR r crt 518
    exact kr4
  · rw [kf.1 76 (by decide) (by decide) (by decide) (by decide) (by decide) (by decide)]; exact j6.1
  · rw [kf.1 76 (by decide) (by decide) (by decide) (by decide) (by decide) (by decide)]; exact j6.2
theorem k_new12 (hl : l.stackTraces = false) (hd : 10 ≤ d) (G : pG 1 [(0, [])] g) (h0 : I 0 = fun _ => 0) : zC l Xi mX12_init d 73 5976 [.ref 0] (I, g) (fun r h' => r = .inl none ∧ ∃ J g', h' = (J, g') ∧ pG 74 [] g' ∧ ∃ lim crt, (∀ n, n < rN rb0 → lim n = nI (rlm rb0 n) ∧ crt n = nI (rcr rb0 n)) ∧ cI J g' (bdS S00 rb0 lim crt)) := by
  refine zC_of hl rfl rfl rfl (Nat.le_of_ble_eq_true rfl) (zav_r (show _ < g.1 by rw [G.1]; omega) zav_0) ?_
  refine zJ_aload_n dX12_init_0 rfl ?_
  refine zJ_objInit lo_X12_3 (Nat.le_of_ble_eq_true rfl) (by omega) dX12_init_1 ?_
  refine zJ_aload_n dX12_init_4 rfl ?_
  refine zN_obj (kc := 72) (ks := 5969) (N := 7) G ln_X12_9 rfl (by omega) dX12_init_5 (fun I1 g1 G1 e1 f1 => ?_)
  refine zJ_dup dX12_init_8 rfl ?_
  refine zJ_callIN (kc := 71) (ks := 5369) [.ref 1, .ref 0] li_X12_11 (i_X10_1 (d := d - 1) hl (by omega) G1) (fun E h1 q => by cases q.1) rfl (by omega) (Nat.le_of_ble_eq_true rfl) dX12_init_9 (fun r h1 q _ => ?_)
  obtain ⟨q1, I2, g2, q2, G2, e2, f2⟩ := q
  cases q1
  subst q2
  refine zN_put G2 lr_X12_12 rfl rfl (by omega) (by omega) rfl rfl ⟨by omega, by omega, by omega⟩ dX12_init_12 (fun g3 G3 => ?_)
  refine zJ_aload_n dX12_init_15 rfl ?_
  refine zN_obj (kc := 70) (ks := 5357) (N := 12) G3 ln_X12_16 rfl (by omega) dX12_init_16 (fun I4 g4 G4 e4 f4 => ?_)
  refine zJ_dup dX12_init_19 rfl ?_
  refine zJ_callI (kc := 62) (ks := 4867) [] [.ref 3, .ref 0] li_X12_18 (i_X0_3 (d := d - 1) hl (by omega) G4) (fun E h1 q => by cases q.1) rfl (by omega) (Nat.le_of_ble_eq_true rfl) dX12_init_20 (fun r h1 q _ => ?_)
  obtain ⟨q1, I5, g5, q2, G5, e5, f5⟩ := q
  cases q1
  subst q2
  refine zN_put G5 lr_X12_19 rfl rfl (by omega) (by omega) rfl rfl ⟨by omega, by omega, by omega⟩ dX12_init_23 (fun g6 G6 => ?_)
  refine zJ_aload_n dX12_init_26 rfl ?_
  refine zN_obj (kc := 61) (ks := 4855) (N := 12) G6 ln_X12_16 rfl (by omega) dX12_init_27 (fun I7 g7 G7 e7 f7 => ?_)
  refine zJ_dup dX12_init_30 rfl ?_
  refine zJ_callI (kc := 53) (ks := 4365) [] [.ref 12, .ref 0] li_X12_18 (i_X0_12 (d := d - 1) hl (by omega) G7) (fun E h1 q => by cases q.1) rfl (by omega) (Nat.le_of_ble_eq_true rfl) dX12_init_31 (fun r h1 q _ => ?_)
  obtain ⟨q1, I8, g8, q2, G8, e8, f8⟩ := q
  cases q1
  subst q2
  refine zN_put G8 lr_X12_23 rfl rfl (by omega) (by omega) rfl rfl ⟨by omega, by omega, by omega⟩ dX12_init_34 (fun g9 G9 => ?_)
  refine zJ_aload_n dX12_init_37 rfl ?_
  refine zN_obj (kc := 52) (ks := 4361) (N := 4) G9 ln_X12_26 rfl (by omega) dX12_init_38 (fun I10 g10 G10 e10 f10 => ?_)
  refine zJ_dup dX12_init_41 rfl ?_
  refine zJ_callI (kc := 49) (ks := 4171) [] [.ref 21, .ref 0] li_X12_28 (i_X5_21 (d := d - 1) hl (by omega) G10) (fun E h1 q => by cases q.1) rfl (by omega) (Nat.le_of_ble_eq_true rfl) dX12_init_42 (fun r h1 q _ => ?_)
  obtain ⟨q1, I11, g11, q2, G11, e11, f11⟩ := q
  cases q1
  subst q2
  refine zN_put G11 lr_X12_29 rfl rfl (by omega) (by omega) rfl rfl ⟨by omega, by omega, by omega⟩ dX12_init_45 (fun g12 G12 => ?_)
  refine zJ_aload_n dX12_init_48 rfl ?_
  refine zN_obj (kc := 48) (ks := 4167) (N := 4) G12 ln_X12_26 rfl (by omega) dX12_init_49 (fun I13 g13 G13 e13 f13 => ?_)
  refine zJ_dup dX12_init_52 rfl ?_
  refine zJ_callI (kc := 45) (ks := 3977) [] [.ref 25, .ref 0] li_X12_28 (i_X5_25 (d := d - 1) hl (by omega) G13) (fun E h1 q => by cases q.1) rfl (by omega) (Nat.le_of_ble_eq_true rfl) dX12_init_53 (fun r h1 q _ => ?_)
  obtain ⟨q1, I14, g14, q2, G14, e14, f14⟩ := q
  cases q1
  subst q2
  refine zN_put G14 lr_X12_33 rfl rfl (by omega) (by omega) rfl rfl ⟨by omega, by omega, by omega⟩ dX12_init_56 (fun g15 G15 => ?_)
  refine zJ_aload_n dX12_init_59 rfl ?_
  refine zN_obj (kc := 44) (ks := 3974) (N := 3) G15 ln_X12_36 rfl (by omega) dX12_init_60 (fun I16 g16 G16 e16 f16 => ?_)
  refine zJ_dup dX12_init_63 rfl ?_
  refine zJ_callIN (kc := 42) (ks := 3958) [.ref 29, .ref 0] li_X12_38 (i_X1_29 (d := d - 1) hl (by omega) G16) (fun E h1 q => by cases q.1) rfl (by omega) (Nat.le_of_ble_eq_true rfl) dX12_init_64 (fun r h1 q _ => ?_)
  obtain ⟨q1, I17, g17, q2, G17, e17, f17⟩ := q
  cases q1
  subst q2
  refine zN_put G17 lr_X12_39 rfl rfl (by omega) (by omega) rfl rfl ⟨by omega, by omega, by omega⟩ dX12_init_67 (fun g18 G18 => ?_)
  refine zJ_aload_n dX12_init_70 rfl ?_
  refine zN_obj (kc := 41) (ks := 3955) (N := 3) G18 ln_X12_36 rfl (by omega) dX12_init_71 (fun I19 g19 G19 e19 f19 => ?_)
  refine zJ_dup dX12_init_74 rfl ?_
  refine zJ_callIN (kc := 39) (ks := 3939) [.ref 32, .ref 0] li_X12_38 (i_X1_32 (d := d - 1) hl (by omega) G19) (fun E h1 q => by cases q.1) rfl (by omega) (Nat.le_of_ble_eq_true rfl) dX12_init_75 (fun r h1 q _ => ?_)
  obtain ⟨q1, I20, g20, q2, G20, e20, f20⟩ := q
  cases q1
  subst q2
  refine zN_put G20 lr_X12_43 rfl rfl (by omega) (by omega) rfl rfl ⟨by omega, by omega, by omega⟩ dX12_init_78 (fun g21 G21 => ?_)
  refine zJ_aload_n dX12_init_81 rfl ?_
  refine zN_obj (kc := 38) (ks := 3931) (N := 8) G21 ln_X12_46 rfl (by omega) dX12_init_82 (fun I22 g22 G22 e22 f22 => ?_)
  refine zJ_dup dX12_init_85 rfl ?_
  refine zJ_callIN (kc := 33) (ks := 3469) [.ref 35, .ref 0] li_X12_48 (i_X11_35 (d := d - 1) hl (by omega) G22) (fun E h1 q => by cases q.1) rfl (by omega) (Nat.le_of_ble_eq_true rfl) dX12_init_86 (fun r h1 q _ => ?_)
  obtain ⟨q1, I23, g23, q2, G23, e23, f23⟩ := q
  cases q1
  subst q2
  refine zN_put G23 lr_X12_49 rfl rfl (by omega) (by omega) rfl rfl ⟨by omega, by omega, by omega⟩ dX12_init_89 (fun g24 G24 => ?_)
  refine zJ_aload_n dX12_init_92 rfl ?_
  refine zN_obj (kc := 32) (ks := 3467) (N := 2) G24 ln_X12_53 rfl (by omega) dX12_init_93 (fun I25 g25 G25 e25 f25 => ?_)
  refine zJ_dup dX12_init_96 rfl ?_
  refine zJ_aload_n dX12_init_97 rfl ?_
  refine zP_getr lf_X12_19 (pG_ob G25 (by omega) rfl) rfl (b := 3) (pG_rf G25 (by omega) rfl (Or.inr ⟨_, (List.mem_cons_of_mem _ List.mem_cons_self), rfl, by decide⟩)) dX12_init_98 ?_
  refine zJ_callI (kc := 31) (ks := 3403) [.ref 3] [.ref 41, .ref 0] li_X12_55 (i_X9_41 (d := d - 1) hl (by omega) G25) (fun E h1 q => by cases q.1) rfl (by omega) (Nat.le_of_ble_eq_true rfl) dX12_init_101 (fun r h1 q _ => ?_)
  obtain ⟨q1, I26, g26, q2, G26, e26, f26⟩ := q
  cases q1
  subst q2
  refine zN_put G26 lr_X12_58 rfl rfl (by omega) (by omega) rfl rfl ⟨by omega, by omega, by omega⟩ dX12_init_104 (fun g27 G27 => ?_)
  refine zJ_aload_n dX12_init_107 rfl ?_
  refine zN_obj (kc := 30) (ks := 3396) (N := 7) G27 ln_X12_62 rfl (by omega) dX12_init_108 (fun I28 g28 G28 e28 f28 => ?_)
  refine zJ_dup dX12_init_111 rfl ?_
  refine zJ_aload_n dX12_init_112 rfl ?_
  refine zP_getr lf_X12_19 (pG_ob G28 (by omega) rfl) rfl (b := 3) (pG_rf G28 (by omega) rfl (Or.inr ⟨_, (List.mem_cons_of_mem _ List.mem_cons_self), rfl, by decide⟩)) dX12_init_113 ?_
  refine zJ_aload_n dX12_init_116 rfl ?_
  refine zP_getr lf_X12_29 (pG_ob G28 (by omega) rfl) rfl (b := 21) (pG_rf G28 (by omega) rfl (Or.inr ⟨_, (List.mem_cons_of_mem _ List.mem_cons_self), rfl, by decide⟩)) dX12_init_117 ?_
  refine zJ_aload_n dX12_init_120 rfl ?_
  refine zP_getr lf_X12_58 (pG_ob G28 (by omega) rfl) rfl (b := 41) (pG_rf G28 (by omega) rfl (Or.inr ⟨_, (List.mem_cons_of_mem _ List.mem_cons_self), rfl, by decide⟩)) dX12_init_121 ?_
  refine zJ_callI (kc := 25) (ks := 2882) [.ref 3, .ref 21, .ref 41] [.ref 43, .ref 0] li_X12_64 (i_X6_43 (d := d - 1) hl (by omega) G28) (fun E h1 q => by cases q.1) rfl (by omega) (Nat.le_of_ble_eq_true rfl) dX12_init_124 (fun r h1 q _ => ?_)
  obtain ⟨q1, I29, g29, q2, G29, e29, f29⟩ := q
  cases q1
  subst q2
  refine zN_put G29 lr_X12_67 rfl rfl (by omega) (by omega) rfl rfl ⟨by omega, by omega, by omega⟩ dX12_init_127 (fun g30 G30 => ?_)
  refine zJ_aload_n dX12_init_130 rfl ?_
  refine zN_obj (kc := 24) (ks := 2879) (N := 3) G30 ln_X12_71 rfl (by omega) dX12_init_131 (fun I31 g31 G31 e31 f31 => ?_)
  refine zJ_dup dX12_init_134 rfl ?_
  refine zJ_aload_n dX12_init_135 rfl ?_
  refine zP_getr lf_X12_19 (pG_ob G31 (by omega) rfl) rfl (b := 3) (pG_rf G31 (by omega) rfl (Or.inr ⟨_, (List.mem_cons_of_mem _ List.mem_cons_self), rfl, by decide⟩)) dX12_init_136 ?_
  refine zJ_callI (kc := 21) (ks := 2045) [.ref 3] [.ref 49, .ref 0] li_X12_73 (i_X4_49 (d := d - 1) hl (by omega) G31) (fun E h1 q => by cases q.1) rfl (by omega) (Nat.le_of_ble_eq_true rfl) dX12_init_139 (fun r h1 q _ => ?_)
  obtain ⟨q1, I32, g32, q2, G32, e32, f32⟩ := q
  cases q1
  subst q2
  refine zN_put G32 lr_X12_74 rfl rfl (by omega) (by omega) rfl rfl ⟨by omega, by omega, by omega⟩ dX12_init_142 (fun g33 G33 => ?_)
  refine zJ_aload_n dX12_init_145 rfl ?_
  refine zN_obj (kc := 20) (ks := 2039) (N := 6) G33 ln_X12_78 rfl (by omega) dX12_init_146 (fun I34 g34 G34 e34 f34 => ?_)
  refine zJ_dup dX12_init_149 rfl ?_
  refine zJ_aload_n dX12_init_150 rfl ?_
  refine zP_getr lf_X12_19 (pG_ob G34 (by omega) rfl) rfl (b := 3) (pG_rf G34 (by omega) rfl (Or.inr ⟨_, (List.mem_cons_of_mem _ List.mem_cons_self), rfl, by decide⟩)) dX12_init_151 ?_
  refine zJ_aload_n dX12_init_154 rfl ?_
  refine zP_getr lf_X12_39 (pG_ob G34 (by omega) rfl) rfl (b := 29) (pG_rf G34 (by omega) rfl (Or.inr ⟨_, (List.mem_cons_of_mem _ List.mem_cons_self), rfl, by decide⟩)) dX12_init_155 ?_
  refine zJ_aload_n dX12_init_158 rfl ?_
  refine zP_getr lf_X12_67 (pG_ob G34 (by omega) rfl) rfl (b := 43) (pG_rf G34 (by omega) rfl (Or.inr ⟨_, (List.mem_cons_of_mem _ List.mem_cons_self), rfl, by decide⟩)) dX12_init_159 ?_
  refine zJ_callI (kc := 17) (ks := 1252) [.ref 3, .ref 29, .ref 43] [.ref 53, .ref 0] li_X12_80 (i_X2_53 (d := d - 1) hl (by omega) G34) (fun E h1 q => by cases q.1) rfl (by omega) (Nat.le_of_ble_eq_true rfl) dX12_init_162 (fun r h1 q _ => ?_)
  obtain ⟨q1, I35, g35, q2, G35, e35, f35⟩ := q
  cases q1
  subst q2
  refine zN_put G35 lr_X12_83 rfl rfl (by omega) (by omega) rfl rfl ⟨by omega, by omega, by omega⟩ dX12_init_165 (fun g36 G36 => ?_)
  refine zJ_aload_n dX12_init_168 rfl ?_
  refine zN_obj (kc := 16) (ks := 1246) (N := 6) G36 ln_X12_87 rfl (by omega) dX12_init_169 (fun I37 g37 G37 e37 f37 => ?_)
  refine zJ_dup dX12_init_172 rfl ?_
  refine zJ_callIN (kc := 12) (ks := 1176) [.ref 57, .ref 0] li_X12_89 (i_X7_57 (d := d - 1) hl (by omega) G37) (fun E h1 q => by cases q.1) rfl (by omega) (Nat.le_of_ble_eq_true rfl) dX12_init_173 (fun r h1 q _ => ?_)
  obtain ⟨q1, I38, g38, q2, G38, e38, f38⟩ := q
  cases q1
  subst q2
  refine zN_put G38 lr_X12_90 rfl rfl (by omega) (by omega) rfl rfl ⟨by omega, by omega, by omega⟩ dX12_init_176 (fun g39 G39 => ?_)
  refine zJ_aload_n dX12_init_179 rfl ?_
  refine zN_obj (kc := 11) (ks := 1170) (N := 6) G39 ln_X12_94 rfl (by omega) dX12_init_180 (fun I40 g40 G40 e40 f40 => ?_)
  refine zJ_dup dX12_init_183 rfl ?_
  refine zJ_callIN (kc := 6) (ks := 588) [.ref 62, .ref 0] li_X12_96 (i_X8_62 (d := d - 1) hl (by omega) G40) (fun E h1 q => by cases q.1) rfl (by omega) (Nat.le_of_ble_eq_true rfl) dX12_init_184 (fun r h1 q _ => ?_)
  obtain ⟨q1, I41, g41, q2, G41, e41, f41⟩ := q
  cases q1
  subst q2
  refine zN_put G41 lr_X12_97 rfl rfl (by omega) (by omega) rfl rfl ⟨by omega, by omega, by omega⟩ dX12_init_187 (fun g42 G42 => ?_)
  refine zJ_aload_n dX12_init_190 rfl ?_
  refine zN_obj (kc := 5) (ks := 582) (N := 6) G42 ln_X12_94 rfl (by omega) dX12_init_191 (fun I43 g43 G43 e43 f43 => ?_)
  refine zJ_dup dX12_init_194 rfl ?_
  refine zJ_callIN (kc := 0) (ks := 0) [.ref 68, .ref 0] li_X12_96 (i_X8_68 (d := d - 1) hl (by omega) G43) (fun E h1 q => by cases q.1) rfl (by omega) (Nat.le_of_ble_eq_true rfl) dX12_init_195 (fun r h1 q _ => ?_)
  obtain ⟨q1, I44, g44, q2, G44, e44, f44⟩ := q
  cases q1
  subst q2
  refine zN_put G44 lr_X12_101 rfl rfl (by omega) (by omega) rfl rfl ⟨by omega, by omega, by omega⟩ dX12_init_198 (fun g45 G45 => ?_)
  refine zJ_aload_n dX12_init_201 rfl ?_
  have Gf := pG_fin G45 (fun j b h => (by decide +kernel : ∀ j, j < 15 → zJ0 0 j ≠ none → j ∈ [14, 13, 12, 11, 10, 9, 8, 7, 6, 5, 4, 3, 2, 1, 0]) j (getD_lt h) (by rw [h]; exact fun y => by cases y))
  have hs := pG_zSc Gf
  have c3 : cFin I44 3 rb0 := cFin_of f5 (fun k q1 q2 => by rw [e44 k (by omega), e43 k (by omega), e41 k (by omega), e40 k (by omega), e38 k (by omega), e37 k (by omega), e35 k (by omega), e34 k (by omega), e32 k (by omega), e31 k (by omega), e29 k (by omega), e28 k (by omega), e26 k (by omega), e25 k (by omega), e23 k (by omega), e22 k (by omega), e20 k (by omega), e19 k (by omega), e17 k (by omega), e16 k (by omega), e14 k (by omega), e13 k (by omega), e11 k (by omega), e10 k (by omega), e8 k (by omega), e7 k (by omega)])
  have t1 : I44 1 1 = nI 0 := by rw [e44 1 (by omega), e43 1 (by omega), e41 1 (by omega), e40 1 (by omega), e38 1 (by omega), e37 1 (by omega), e35 1 (by omega), e34 1 (by omega), e32 1 (by omega), e31 1 (by omega), e29 1 (by omega), e28 1 (by omega), e26 1 (by omega), e25 1 (by omega), e23 1 (by omega), e22 1 (by omega), e20 1 (by omega), e19 1 (by omega), e17 1 (by omega), e16 1 (by omega), e14 1 (by omega), e13 1 (by omega), e11 1 (by omega), e10 1 (by omega), e8 1 (by omega), e7 1 (by omega), e5 1 (by omega), e4 1 (by omega), f2.2.1 1 (by decide), f1]; rfl
  have t6 : I44 1 6 = -1 := by rw [e44 1 (by omega), e43 1 (by omega), e41 1 (by omega), e40 1 (by omega), e38 1 (by omega), e37 1 (by omega), e35 1 (by omega), e34 1 (by omega), e32 1 (by omega), e31 1 (by omega), e29 1 (by omega), e28 1 (by omega), e26 1 (by omega), e25 1 (by omega), e23 1 (by omega), e22 1 (by omega), e20 1 (by omega), e19 1 (by omega), e17 1 (by omega), e16 1 (by omega), e14 1 (by omega), e13 1 (by omega), e11 1 (by omega), e10 1 (by omega), e8 1 (by omega), e7 1 (by omega), e5 1 (by omega), e4 1 (by omega)]; exact f2.1
  have t2 : I44 2 = fun _ => 0 := by rw [e44 2 (by omega), e43 2 (by omega), e41 2 (by omega), e40 2 (by omega), e38 2 (by omega), e37 2 (by omega), e35 2 (by omega), e34 2 (by omega), e32 2 (by omega), e31 2 (by omega), e29 2 (by omega), e28 2 (by omega), e26 2 (by omega), e25 2 (by omega), e23 2 (by omega), e22 2 (by omega), e20 2 (by omega), e19 2 (by omega), e17 2 (by omega), e16 2 (by omega), e14 2 (by omega), e13 2 (by omega), e11 2 (by omega), e10 2 (by omega), e8 2 (by omega), e7 2 (by omega), e5 2 (by omega), e4 2 (by omega)]; exact f2.2.2
  have z0 : I44 0 = fun _ => 0 := by rw [e44 0 (by omega), e43 0 (by omega), e41 0 (by omega), e40 0 (by omega), e38 0 (by omega), e37 0 (by omega), e35 0 (by omega), e34 0 (by omega), e32 0 (by omega), e31 0 (by omega), e29 0 (by omega), e28 0 (by omega), e26 0 (by omega), e25 0 (by omega), e23 0 (by omega), e22 0 (by omega), e20 0 (by omega), e19 0 (by omega), e17 0 (by omega), e16 0 (by omega), e14 0 (by omega), e13 0 (by omega), e11 0 (by omega), e10 0 (by omega), e8 0 (by omega), e7 0 (by omega), e5 0 (by omega), e4 0 (by omega), e2 0 (by omega), e1 0 (by omega)]; exact h0
  refine zP_ecallVv [] _ lv_X12_104 (k_startAnew0 (d := d - 1) (S := S00) hl (by omega) hs c3 rb0_ok ⟨t1, Nat.zero_le _, fun k hk => by rw [t2]; exact ⟨rfl, (by decide : (0 : Nat) < 256)⟩⟩ t6 (pG_sh Gf (by omega)) (by rw [z0]; rfl) (by rw [z0]; rfl)) (pG_ob Gf (by omega) rfl) rfl (by omega) (Nat.le_of_ble_eq_true rfl) rfl dX12_init_202 (fun J q => ?_)
  refine zJ_vret rfl dX12_init_205 ?_
  obtain ⟨-, lim, crt, q1, q2, -⟩ := q
  exact ⟨rfl, J, _, rfl, Gf, lim, crt, q1, q2⟩
set_option maxHeartbeats 1000000 in
theorem k_new13 (hl : l.stackTraces = false) (hd : 10 ≤ d) (G : pG 75 [(74, [])] g) (h74 : I 74 = fun _ => 0) : zC l Xi mX13_init d 567 40582 [.ref 74] (I, g) (fun r h' => r = .inl none ∧ ∃ J g', h' = (J, g') ∧ pG 642 [] g' ∧ (∀ k, k < 74 ∨ 642 ≤ k → J k = I k) ∧ ∀ lim crt, (∀ n, n < rN rb0 → lim n = nI (rlm rb0 n) ∧ crt n = nI (rcr rb0 n)) → rI J (bdS S00 rb0 lim crt)) := by
  refine zC_of hl rfl rfl rfl (Nat.le_of_ble_eq_true rfl) (zav_r (show _ < g.1 by rw [G.1]; omega) zav_0) ?_
  refine zJ_aload_n dX13_init_0 rfl ?_
  refine zJ_objInit lo_X13_1 (Nat.le_of_ble_eq_true rfl) (by omega) dX13_init_1 ?_
  refine zJ_aload_n dX13_init_4 rfl ?_
  refine zJ_iconst (v := -1) dX13_init_5 rfl ?_
  refine zP_puti lf_X13_9 (pG_ob G (by omega) rfl) rfl dX13_init_6 ?_
  obtain ⟨I1, h1⟩ : ∃ J, zup I 74 3 (-1) = J := ⟨_, rfl⟩
  rw [h1]
  have e1 : ∀ k, k ≠ 74 → I1 k = I k := fun k hk => by rw [← h1, zup_row hk]
  refine zJ_aload_n dX13_init_9 rfl ?_
  refine zJ_sipush (v := nI 600) dX13_init_10 rfl ?_
  refine zN_arr (kc := 566) (ks := 39982) (N := 600) G rfl (fun _ => rfl) (by omega) rfl (by omega) dX13_init_13 (fun I2 g2 G2 e2 f2 => ?_)
  refine zN_put G2 lr_X13_13 rfl rfl (by omega) (by omega) rfl rfl ⟨by omega, by omega, by omega⟩ dX13_init_15 (fun g3 G3 => ?_)
  refine zJ_aload_n dX13_init_18 rfl ?_
  refine zJ_iconst (v := nI 2) dX13_init_19 rfl ?_
  refine zN_arr (kc := 565) (ks := 39980) (N := 2) G3 rfl (fun _ => rfl) (by omega) rfl (by omega) dX13_init_20 (fun I4 g4 G4 e4 f4 => ?_)
  refine zN_put G4 lr_X13_17 rfl rfl (by omega) (by omega) rfl rfl ⟨by omega, by omega, by omega⟩ dX13_init_22 (fun g5 G5 => ?_)
  refine zJ_aload_n dX13_init_25 rfl ?_
  refine zJ_iconst (v := nI 4) dX13_init_26 rfl ?_
  refine zN_arr (kc := 564) (ks := 39976) (N := 4) G5 rfl (fun _ => rfl) (by omega) rfl (by omega) dX13_init_27 (fun I6 g6 G6 e6 f6 => ?_)
  refine zN_put G6 lr_X13_20 rfl rfl (by omega) (by omega) rfl rfl ⟨by omega, by omega, by omega⟩ dX13_init_29 (fun g7 G7 => ?_)
  refine zJ_aload_n dX13_init_32 rfl ?_
  refine zJ_iconst (v := nI 4) dX13_init_33 rfl ?_
  refine zN_arr (kc := 563) (ks := 39972) (N := 4) G7 rfl (fun _ => rfl) (by omega) rfl (by omega) dX13_init_34 (fun I8 g8 G8 e8 f8 => ?_)
  refine zN_put G8 lr_X13_23 rfl rfl (by omega) (by omega) rfl rfl ⟨by omega, by omega, by omega⟩ dX13_init_36 (fun g9 G9 => ?_)
  refine zJ_aload_n dX13_init_39 rfl ?_
  refine zJ_bipush (v := nI 64) dX13_init_40 rfl ?_
  refine zN_arr (kc := 562) (ks := 39908) (N := 64) G9 rfl (fun _ => rfl) (by omega) rfl (by omega) dX13_init_42 (fun I10 g10 G10 e10 f10 => ?_)
  refine zN_put G10 lr_X13_26 rfl rfl (by omega) (by omega) rfl rfl ⟨by omega, by omega, by omega⟩ dX13_init_44 (fun g11 G11 => ?_)
  refine zJ_aload_n dX13_init_47 rfl ?_
  refine zJ_bipush (v := nI 64) dX13_init_48 rfl ?_
  refine zN_arr (kc := 561) (ks := 39844) (N := 64) G11 rfl (fun _ => rfl) (by omega) rfl (by omega) dX13_init_50 (fun I12 g12 G12 e12 f12 => ?_)
  refine zN_put G12 lr_X13_29 rfl rfl (by omega) (by omega) rfl rfl ⟨by omega, by omega, by omega⟩ dX13_init_52 (fun g13 G13 => ?_)
  refine zJ_aload_n dX13_init_55 rfl ?_
  refine zJ_bipush (v := nI 64) dX13_init_56 rfl ?_
  refine zN_arr (kc := 560) (ks := 39780) (N := 64) G13 rfl (fun _ => rfl) (by omega) rfl (by omega) dX13_init_58 (fun I14 g14 G14 e14 f14 => ?_)
  refine zN_put G14 lr_X13_32 rfl rfl (by omega) (by omega) rfl rfl ⟨by omega, by omega, by omega⟩ dX13_init_60 (fun g15 G15 => ?_)
  refine zJ_aload_n dX13_init_63 rfl ?_
  refine zJ_bipush (v := nI 6) dX13_init_64 rfl ?_
  refine zJ_iconst (v := nI 3) dX13_init_66 rfl ?_
  refine zN_mna (kc := 553) (ks := 39756) (N := 6) (K := 3) G15 (by omega) (by omega) (by omega) (by omega) rfl (by decide +kernel : ∀ i, i < 6 → zS0 (82 + 1 + i) = .inr (0, 3)) (fun j b h => ite_sm h) (fun i j hi => zJ0_no ((by decide +kernel : ∀ i, i < 6 → ∀ q ∈ zJk, q ≠ 82 + 1 + i) i hi)) rfl rfl lx_mna dX13_init_67 (fun I16 g16 G16 e16 f16 => ?_)
  refine zN_put G16 lr_X13_37 rfl rfl (by omega) (by omega) rfl rfl ⟨by omega, by omega, by omega⟩ dX13_init_71 (fun g17 G17 => ?_)
  refine zJ_aload_n dX13_init_74 rfl ?_
  refine zJ_bipush (v := nI 6) dX13_init_75 rfl ?_
  refine zJ_iconst (v := nI 3) dX13_init_77 rfl ?_
  refine zN_mna (kc := 546) (ks := 39732) (N := 6) (K := 3) G17 (by omega) (by omega) (by omega) (by omega) rfl (by decide +kernel : ∀ i, i < 6 → zS0 (89 + 1 + i) = .inr (0, 3)) (fun j b h => ite_sm h) (fun i j hi => zJ0_no ((by decide +kernel : ∀ i, i < 6 → ∀ q ∈ zJk, q ≠ 89 + 1 + i) i hi)) rfl rfl lx_mna dX13_init_78 (fun I18 g18 G18 e18 f18 => ?_)
  refine zN_put G18 lr_X13_40 rfl rfl (by omega) (by omega) rfl rfl ⟨by omega, by omega, by omega⟩ dX13_init_82 (fun g19 G19 => ?_)
  refine zJ_aload_n dX13_init_85 rfl ?_
  refine zJ_bipush (v := nI 6) dX13_init_86 rfl ?_
  refine zJ_iconst (v := nI 4) dX13_init_88 rfl ?_
  refine zN_mna (kc := 539) (ks := 39702) (N := 6) (K := 4) G19 (by omega) (by omega) (by omega) (by omega) rfl (by decide +kernel : ∀ i, i < 6 → zS0 (96 + 1 + i) = .inr (0, 4)) (fun j b h => ite_sm h) (fun i j hi => zJ0_no ((by decide +kernel : ∀ i, i < 6 → ∀ q ∈ zJk, q ≠ 96 + 1 + i) i hi)) rfl rfl lx_mna dX13_init_89 (fun I20 g20 G20 e20 f20 => ?_)
  refine zN_put G20 lr_X13_43 rfl rfl (by omega) (by omega) rfl rfl ⟨by omega, by omega, by omega⟩ dX13_init_93 (fun g21 G21 => ?_)
  refine zJ_aload_n dX13_init_96 rfl ?_
  refine zJ_bipush (v := nI 6) dX13_init_97 rfl ?_
  refine zJ_iconst (v := nI 4) dX13_init_99 rfl ?_
  refine zN_mna (kc := 532) (ks := 39672) (N := 6) (K := 4) G21 (by omega) (by omega) (by omega) (by omega) rfl (by decide +kernel : ∀ i, i < 6 → zS0 (103 + 1 + i) = .inr (0, 4)) (fun j b h => ite_sm h) (fun i j hi => zJ0_no ((by decide +kernel : ∀ i, i < 6 → ∀ q ∈ zJk, q ≠ 103 + 1 + i) i hi)) rfl rfl lx_mna dX13_init_100 (fun I22 g22 G22 e22 f22 => ?_)
  refine zN_put G22 lr_X13_46 rfl rfl (by omega) (by omega) rfl rfl ⟨by omega, by omega, by omega⟩ dX13_init_104 (fun g23 G23 => ?_)
  refine zJ_aload_n dX13_init_107 rfl ?_
  refine zJ_sipush (v := nI 160) dX13_init_108 rfl ?_
  refine zJ_iconst (v := nI 2) dX13_init_111 rfl ?_
  refine zN_mna (kc := 371) (ks := 39192) (N := 160) (K := 2) G23 (by omega) (by omega) (by omega) (by omega) rfl (by decide +kernel : ∀ i, i < 160 → zS0 (110 + 1 + i) = .inr (0, 2)) (fun j b h => ite_sm h) (fun i j hi => zJ0_no ((by decide +kernel : ∀ i, i < 160 → ∀ q ∈ zJk, q ≠ 110 + 1 + i) i hi)) rfl rfl lx_mna dX13_init_112 (fun I24 g24 G24 e24 f24 => ?_)
  refine zN_put G24 lr_X13_49 rfl rfl (by omega) (by omega) rfl rfl ⟨by omega, by omega, by omega⟩ dX13_init_116 (fun g25 G25 => ?_)
  refine zJ_aload_n dX13_init_119 rfl ?_
  refine zJ_sipush (v := nI 160) dX13_init_120 rfl ?_
  refine zJ_iconst (v := nI 2) dX13_init_123 rfl ?_
  refine zN_mna (kc := 210) (ks := 38712) (N := 160) (K := 2) G25 (by omega) (by omega) (by omega) (by omega) rfl (by decide +kernel : ∀ i, i < 160 → zS0 (271 + 1 + i) = .inr (0, 2)) (fun j b h => ite_sm h) (fun i j hi => zJ0_no ((by decide +kernel : ∀ i, i < 160 → ∀ q ∈ zJk, q ≠ 271 + 1 + i) i hi)) rfl rfl lx_mna dX13_init_124 (fun I26 g26 G26 e26 f26 => ?_)
  refine zN_put G26 lr_X13_52 rfl rfl (by omega) (by omega) rfl rfl ⟨by omega, by omega, by omega⟩ dX13_init_128 (fun g27 G27 => ?_)
  refine zJ_aload_n dX13_init_131 rfl ?_
  refine zJ_bipush (v := nI 8) dX13_init_132 rfl ?_
  refine zJ_iconst (v := nI 2) dX13_init_134 rfl ?_
  refine zN_mna (kc := 201) (ks := 38688) (N := 8) (K := 2) G27 (by omega) (by omega) (by omega) (by omega) rfl (by decide +kernel : ∀ i, i < 8 → zS0 (432 + 1 + i) = .inr (0, 2)) (fun j b h => ite_sm h) (fun i j hi => zJ0_no ((by decide +kernel : ∀ i, i < 8 → ∀ q ∈ zJk, q ≠ 432 + 1 + i) i hi)) rfl rfl lx_mna dX13_init_135 (fun I28 g28 G28 e28 f28 => ?_)
  refine zN_put G28 lr_X13_55 rfl rfl (by omega) (by omega) rfl rfl ⟨by omega, by omega, by omega⟩ dX13_init_139 (fun g29 G29 => ?_)
  refine zJ_aload_n dX13_init_142 rfl ?_
  refine zJ_bipush (v := nI 8) dX13_init_143 rfl ?_
  refine zJ_iconst (v := nI 2) dX13_init_145 rfl ?_
  refine zN_mna (kc := 192) (ks := 38664) (N := 8) (K := 2) G29 (by omega) (by omega) (by omega) (by omega) rfl (by decide +kernel : ∀ i, i < 8 → zS0 (441 + 1 + i) = .inr (0, 2)) (fun j b h => ite_sm h) (fun i j hi => zJ0_no ((by decide +kernel : ∀ i, i < 8 → ∀ q ∈ zJk, q ≠ 441 + 1 + i) i hi)) rfl rfl lx_mna dX13_init_146 (fun I30 g30 G30 e30 f30 => ?_)
  refine zN_put G30 lr_X13_58 rfl rfl (by omega) (by omega) rfl rfl ⟨by omega, by omega, by omega⟩ dX13_init_150 (fun g31 G31 => ?_)
  refine zJ_aload_n dX13_init_153 rfl ?_
  refine zJ_sipush (v := nI 160) dX13_init_154 rfl ?_
  refine zN_arr (kc := 191) (ks := 38504) (N := 160) G31 rfl (fun _ => rfl) (by omega) rfl (by omega) dX13_init_157 (fun I32 g32 G32 e32 f32 => ?_)
  refine zN_put G32 lr_X13_61 rfl rfl (by omega) (by omega) rfl rfl ⟨by omega, by omega, by omega⟩ dX13_init_159 (fun g33 G33 => ?_)
  refine zJ_aload_n dX13_init_162 rfl ?_
  refine zJ_bipush (v := nI 8) dX13_init_163 rfl ?_
  refine zN_arr (kc := 190) (ks := 38496) (N := 8) G33 rfl (fun _ => rfl) (by omega) rfl (by omega) dX13_init_165 (fun I34 g34 G34 e34 f34 => ?_)
  refine zN_put G34 lr_X13_64 rfl rfl (by omega) (by omega) rfl rfl ⟨by omega, by omega, by omega⟩ dX13_init_167 (fun g35 G35 => ?_)
  refine zJ_aload_n dX13_init_170 rfl ?_
  refine zJ_bipush (v := nI 80) dX13_init_171 rfl ?_
  refine zJ_iconst (v := nI 4) dX13_init_173 rfl ?_
  refine zN_mna (kc := 109) (ks := 38096) (N := 80) (K := 4) G35 (by omega) (by omega) (by omega) (by omega) rfl (by decide +kernel : ∀ i, i < 80 → zS0 (452 + 1 + i) = .inr (0, 4)) (fun j b h => ite_sm h) (fun i j hi => zJ0_no ((by decide +kernel : ∀ i, i < 80 → ∀ q ∈ zJk, q ≠ 452 + 1 + i) i hi)) rfl rfl lx_mna dX13_init_174 (fun I36 g36 G36 e36 f36 => ?_)
  refine zN_put G36 lr_X13_67 rfl rfl (by omega) (by omega) rfl rfl ⟨by omega, by omega, by omega⟩ dX13_init_178 (fun g37 G37 => ?_)
  refine zJ_aload_n dX13_init_181 rfl ?_
  refine zJ_sipush (v := nI 519) dX13_init_182 rfl ?_
  refine zN_arr (kc := 108) (ks := 37577) (N := 519) G37 rfl (fun _ => rfl) (by omega) rfl (by omega) dX13_init_185 (fun I38 g38 G38 e38 f38 => ?_)
  refine zN_put G38 lr_X13_70 rfl rfl (by omega) (by omega) rfl rfl ⟨by omega, by omega, by omega⟩ dX13_init_187 (fun g39 G39 => ?_)
  refine zJ_aload_n dX13_init_190 rfl ?_
  refine zJ_sipush (v := nI 519) dX13_init_191 rfl ?_
  refine zN_arr (kc := 107) (ks := 37058) (N := 519) G39 rfl (fun _ => rfl) (by omega) rfl (by omega) dX13_init_194 (fun I40 g40 G40 e40 f40 => ?_)
  refine zN_put G40 lr_X13_73 rfl rfl (by omega) (by omega) rfl rfl ⟨by omega, by omega, by omega⟩ dX13_init_196 (fun g41 G41 => ?_)
  refine zJ_aload_n dX13_init_199 rfl ?_
  refine zJ_sipush (v := nI 519) dX13_init_200 rfl ?_
  refine zN_arr (kc := 106) (ks := 36539) (N := 519) G41 rfl (fun _ => rfl) (by omega) rfl (by omega) dX13_init_203 (fun I42 g42 G42 e42 f42 => ?_)
  refine zN_put G42 lr_X13_76 rfl rfl (by omega) (by omega) rfl rfl ⟨by omega, by omega, by omega⟩ dX13_init_205 (fun g43 G43 => ?_)
  refine zJ_aload_n dX13_init_208 rfl ?_
  refine zJ_bipush (v := nI 16) dX13_init_209 rfl ?_
  refine zJ_sipush (v := nI 519) dX13_init_211 rfl ?_
  refine zN_mna (kc := 89) (ks := 28219) (N := 16) (K := 519) G43 (by omega) (by omega) (by omega) (by omega) rfl (by decide +kernel : ∀ i, i < 16 → zS0 (536 + 1 + i) = .inr (0, 519)) (fun j b h => ite_sm h) (fun i j hi => zJ0_no ((by decide +kernel : ∀ i, i < 16 → ∀ q ∈ zJk, q ≠ 536 + 1 + i) i hi)) rfl rfl lx_mna dX13_init_214 (fun I44 g44 G44 e44 f44 => ?_)
  refine zN_put G44 lr_X13_79 rfl rfl (by omega) (by omega) rfl rfl ⟨by omega, by omega, by omega⟩ dX13_init_218 (fun g45 G45 => ?_)
  refine zJ_aload_n dX13_init_221 rfl ?_
  refine zJ_iconst (v := nI 3) dX13_init_222 rfl ?_
  refine zJ_sipush (v := nI 8824) dX13_init_223 rfl ?_
  refine zN_mna (kc := 85) (ks := 1744) (N := 3) (K := 8824) G45 (by omega) (by omega) (by omega) (by omega) rfl (by decide +kernel : ∀ i, i < 3 → zS0 (553 + 1 + i) = .inr (0, 8824)) (fun j b h => ite_sm h) (fun i j hi => zJ0_no ((by decide +kernel : ∀ i, i < 3 → ∀ q ∈ zJk, q ≠ 553 + 1 + i) i hi)) rfl rfl lx_mna dX13_init_226 (fun I46 g46 G46 e46 f46 => ?_)
  refine zN_put G46 lr_X13_82 rfl rfl (by omega) (by omega) rfl rfl ⟨by omega, by omega, by omega⟩ dX13_init_230 (fun g47 G47 => ?_)
  refine zJ_aload_n dX13_init_233 rfl ?_
  refine zJ_bipush (v := nI 64) dX13_init_234 rfl ?_
  refine zN_arr (kc := 84) (ks := 1680) (N := 64) G47 rfl (fun _ => rfl) (by omega) rfl (by omega) dX13_init_236 (fun I48 g48 G48 e48 f48 => ?_)
  refine zN_put G48 lr_X13_85 rfl rfl (by omega) (by omega) rfl rfl ⟨by omega, by omega, by omega⟩ dX13_init_238 (fun g49 G49 => ?_)
  refine zJ_aload_n dX13_init_241 rfl ?_
  refine zJ_bipush (v := nI 64) dX13_init_242 rfl ?_
  refine zN_arr (kc := 83) (ks := 1616) (N := 64) G49 rfl (fun _ => rfl) (by omega) rfl (by omega) dX13_init_244 (fun I50 g50 G50 e50 f50 => ?_)
  refine zN_put G50 lr_X13_88 rfl rfl (by omega) (by omega) rfl rfl ⟨by omega, by omega, by omega⟩ dX13_init_246 (fun g51 G51 => ?_)
  refine zJ_aload_n dX13_init_249 rfl ?_
  refine zJ_bipush (v := nI 64) dX13_init_250 rfl ?_
  refine zN_boo (kc := 82) (ks := 1552) (N := 64) G51 rfl (fun _ => rfl) (by omega) rfl (by omega) dX13_init_252 (fun I52 g52 G52 e52 f52 => ?_)
  refine zN_put G52 lr_X13_91 rfl rfl (by omega) (by omega) rfl rfl ⟨by omega, by omega, by omega⟩ dX13_init_254 (fun g53 G53 => ?_)
  refine zJ_aload_n dX13_init_257 rfl ?_
  refine zJ_bipush (v := nI 16) dX13_init_258 rfl ?_
  refine zJ_bipush (v := nI 64) dX13_init_260 rfl ?_
  refine zN_mna (kc := 65) (ks := 512) (N := 16) (K := 64) G53 (by omega) (by omega) (by omega) (by omega) rfl (by decide +kernel : ∀ i, i < 16 → zS0 (560 + 1 + i) = .inr (0, 64)) (fun j b h => ite_sm h) (fun i j hi => zJ0_no ((by decide +kernel : ∀ i, i < 16 → ∀ q ∈ zJk, q ≠ 560 + 1 + i) i hi)) rfl rfl lx_mna dX13_init_262 (fun I54 g54 G54 e54 f54 => ?_)
  refine zN_put G54 lr_X13_95 rfl rfl (by omega) (by omega) rfl rfl ⟨by omega, by omega, by omega⟩ dX13_init_266 (fun g55 G55 => ?_)
  refine zJ_aload_n dX13_init_269 rfl ?_
  refine zJ_bipush (v := nI 64) dX13_init_270 rfl ?_
  refine zJ_bipush (v := nI 7) dX13_init_272 rfl ?_
  refine zN_mna (kc := 0) (ks := 0) (N := 64) (K := 7) G55 (by omega) (by omega) (by omega) (by omega) rfl (by decide +kernel : ∀ i, i < 64 → zS0 (577 + 1 + i) = .inr (0, 7)) (fun j b h => ite_sm h) (fun i j hi => zJ0_no ((by decide +kernel : ∀ i, i < 64 → ∀ q ∈ zJk, q ≠ 577 + 1 + i) i hi)) rfl rfl lx_mna dX13_init_274 (fun I56 g56 G56 e56 f56 => ?_)
  refine zN_put G56 lr_X13_98 rfl rfl (by omega) (by omega) rfl rfl ⟨by omega, by omega, by omega⟩ dX13_init_278 (fun g57 G57 => ?_)
  refine zJ_aload_n dX13_init_281 rfl ?_
  have Gf := pG_fin G57 (fun j b h => (by decide +kernel : ∀ j, j < 48 → zJ0 74 j ≠ none → j ∈ [46, 45, 42, 41, 40, 34, 33, 32, 31, 30, 28, 27, 26, 25, 24, 23, 22, 19, 18, 17, 16, 15, 14, 13, 12, 11, 10, 9]) j (Nat.lt_of_lt_of_le (getD_lt h) (by decide)) (by rw [h]; exact fun y => by cases y))
  have hs := pG_zSt Gf
  have z74 : ∀ k, k ≠ 3 → I56 74 k = 0 := fun k hk => by rw [e56 74 (by omega), e54 74 (by omega), e52 74 (by omega), e50 74 (by omega), e48 74 (by omega), e46 74 (by omega), e44 74 (by omega), e42 74 (by omega), e40 74 (by omega), e38 74 (by omega), e36 74 (by omega), e34 74 (by omega), e32 74 (by omega), e30 74 (by omega), e28 74 (by omega), e26 74 (by omega), e24 74 (by omega), e22 74 (by omega), e20 74 (by omega), e18 74 (by omega), e16 74 (by omega), e14 74 (by omega), e12 74 (by omega), e10 74 (by omega), e8 74 (by omega), e6 74 (by omega), e4 74 (by omega), e2 74 (by omega), ← h1, zup_same, upd_ne hk, h74]
  have z3 : I56 74 3 = -1 := by rw [e56 74 (by omega), e54 74 (by omega), e52 74 (by omega), e50 74 (by omega), e48 74 (by omega), e46 74 (by omega), e44 74 (by omega), e42 74 (by omega), e40 74 (by omega), e38 74 (by omega), e36 74 (by omega), e34 74 (by omega), e32 74 (by omega), e30 74 (by omega), e28 74 (by omega), e26 74 (by omega), e24 74 (by omega), e22 74 (by omega), e20 74 (by omega), e18 74 (by omega), e16 74 (by omega), e14 74 (by omega), e12 74 (by omega), e10 74 (by omega), e8 74 (by omega), e6 74 (by omega), e4 74 (by omega), e2 74 (by omega), ← h1, zup_same, upd_at]
  have z76 : I56 76 = fun _ => 0 := by rw [e56 76 (by omega), e54 76 (by omega), e52 76 (by omega), e50 76 (by omega), e48 76 (by omega), e46 76 (by omega), e44 76 (by omega), e42 76 (by omega), e40 76 (by omega), e38 76 (by omega), e36 76 (by omega), e34 76 (by omega), e32 76 (by omega), e30 76 (by omega), e28 76 (by omega), e26 76 (by omega), e24 76 (by omega), e22 76 (by omega), e20 76 (by omega), e18 76 (by omega), e16 76 (by omega), e14 76 (by omega), e12 76 (by omega), e10 76 (by omega), e8 76 (by omega), e6 76 (by omega)]; exact f4
  have zf : ∀ k, k < 74 ∨ 642 ≤ k → I56 k = I k := fun k hk => by rw [e56 k (by omega), e54 k (by omega), e52 k (by omega), e50 k (by omega), e48 k (by omega), e46 k (by omega), e44 k (by omega), e42 k (by omega), e40 k (by omega), e38 k (by omega), e36 k (by omega), e34 k (by omega), e32 k (by omega), e30 k (by omega), e28 k (by omega), e26 k (by omega), e24 k (by omega), e22 k (by omega), e20 k (by omega), e18 k (by omega), e16 k (by omega), e14 k (by omega), e12 k (by omega), e10 k (by omega), e8 k (by omega), e6 k (by omega), e4 k (by omega), e2 k (by omega), e1 k (by omega)]
  refine zP_ecallVv [] _ lv_X13_101 (m_tellsNothing (d := d - 1) hl (by omega) hs) (zSt_ob hs 74 13 rfl) rfl (by omega) (Nat.le_of_ble_eq_true rfl) rfl dX13_init_282 (fun J q => ?_)
  obtain ⟨q1, q2⟩ := q
  refine zJ_aload_n dX13_init_285 rfl ?_
  refine zP_ecallVv [] _ lv_X13_104 (m_beginsAnew (d := d - 1) hl (by omega) hs q2 rb0_ok) (zSt_ob hs 74 13 rfl) rfl (by omega) (Nat.le_of_ble_eq_true rfl) rfl dX13_init_286 (fun K hK => ?_)
  refine zJ_vret rfl dX13_init_289 ?_
  obtain ⟨kf, k0, kt, kn, kw, kr1, kr2, kr3, kr4⟩ := hK
  have y74 : J 74 = I56 74 := q1 74 (by decide) (by decide) (by decide)
  have y76 : J 76 = I56 76 := q1 76 (by decide) (by decide) (by decide)
  refine ⟨rfl, K, _, rfl, Gf, fun k hk => by rw [kf.1 k (by omega) (by omega) (by omega) (by omega) (by omega) (by omega), q1 k (by omega) (by omega) (by omega), zf k hk], fun lim crt hlc => ?_⟩
  exact rI_bd rb0_ok kf k0 kt kn kw kr1 kr2 kr3 kr4 (by rw [y74]; exact z74 1 (by decide)) (by rw [y74]; exact z3) ⟨by rw [y76, z76]; rfl, by rw [y76, z76]; rfl⟩ hlc
end ZStart
