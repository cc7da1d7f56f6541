/-! ===== NegotiatedWires: feed, board ===== -/
section ZX12e
variable {l : Launch} {Xi : zXi} {d : Nat} {I : zI} {g : zG}
theorem k_boardCopy (hl : l.stackTraces = false) (hd : 3 ≤ d) (hs : zSt g) : zEv l Xi mX0_copyFrom d [.ref 3, .ref 12] I g (fun J => (∀ a, (a < 3 ∨ 11 < a) → J a = I a) ∧ (∀ k, k < 4 → J 3 k = I 12 k) ∧ (∀ o n j, (o = 1 ∨ o = 2 ∨ o = 3) → n = 6 → j < n → J (3 + o) j = I (12 + o) j) ∧ (∀ j, j < 24 → J 7 j = I 16 j) ∧ (∀ o j, (o = 5 ∨ o = 6 ∨ o = 7) → j < 64 → J (3 + o) j = I (12 + o) j) ∧ ∀ j, j < 256 → J 11 j = I 20 j) := by
  refine zC_of hl rfl rfl rfl (Nat.le_of_ble_eq_true rfl) (zav_r (zSt_ob hs 3 0 rfl).1 (zav_r (zSt_ob hs 12 0 rfl).1 zav_0)) ?_
  refine zJ_aload_n dX0_copyFrom_0 rfl ?_
  refine zJ_aload_n dX0_copyFrom_1 rfl ?_
  refine zP_geti lf_X0_9 (zSt_ob hs 12 0 rfl) rfl dX0_copyFrom_2 ?_
  refine zP_puti lf_X0_9 (zSt_ob hs 3 0 rfl) rfl dX0_copyFrom_5 ?_
  refine zJ_aload_n dX0_copyFrom_8 rfl ?_
  refine zJ_aload_n dX0_copyFrom_9 rfl ?_
  refine zP_geti lf_X0_15 (zSt_ob hs 12 0 rfl) rfl dX0_copyFrom_10 ?_
  refine zP_puti lf_X0_15 (zSt_ob hs 3 0 rfl) rfl dX0_copyFrom_13 ?_
  refine zJ_aload_n dX0_copyFrom_16 rfl ?_
  refine zJ_aload_n dX0_copyFrom_17 rfl ?_
  refine zP_geti lf_X0_52 (zSt_ob hs 12 0 rfl) rfl dX0_copyFrom_18 ?_
  refine zP_puti lf_X0_52 (zSt_ob hs 3 0 rfl) rfl dX0_copyFrom_21 ?_
  refine zJ_aload_n dX0_copyFrom_24 rfl ?_
  refine zJ_aload_n dX0_copyFrom_25 rfl ?_
  refine zP_geti lf_X0_18 (zSt_ob hs 12 0 rfl) rfl dX0_copyFrom_26 ?_
  refine zP_puti lf_X0_18 (zSt_ob hs 3 0 rfl) rfl dX0_copyFrom_29 ?_
  refine zJ_aload_n dX0_copyFrom_32 rfl ?_
  refine zP_getr lf_X0_21 (zSt_ob hs 12 0 rfl) rfl (zSt_rf hs 12 4 13 rfl) dX0_copyFrom_33 ?_
  refine zJ_iconst (v := nI 0) dX0_copyFrom_36 rfl ?_
  refine zJ_aload_n dX0_copyFrom_37 rfl ?_
  refine zP_getr lf_X0_21 (zSt_ob hs 3 0 rfl) rfl (zSt_rf hs 3 4 4 rfl) dX0_copyFrom_38 ?_
  refine zJ_iconst (v := nI 0) dX0_copyFrom_41 rfl ?_
  refine zJ_bipush (v := nI 6) dX0_copyFrom_42 rfl ?_
  refine zP_copy lc_X0_55 (zSt_ar hs 13 6 rfl) (zSt_ar hs 4 6 rfl) (sp := 0) (dp := 0) (n := 6) rfl rfl rfl (by decide) (by decide) (by decide) (Nat.le_of_ble_eq_true rfl) (by omega) dX0_copyFrom_44 ?_
  refine zJ_aload_n dX0_copyFrom_47 rfl ?_
  refine zP_getr lf_X0_25 (zSt_ob hs 12 0 rfl) rfl (zSt_rf hs 12 5 14 rfl) dX0_copyFrom_48 ?_
  refine zJ_iconst (v := nI 0) dX0_copyFrom_51 rfl ?_
  refine zJ_aload_n dX0_copyFrom_52 rfl ?_
  refine zP_getr lf_X0_25 (zSt_ob hs 3 0 rfl) rfl (zSt_rf hs 3 5 5 rfl) dX0_copyFrom_53 ?_
  refine zJ_iconst (v := nI 0) dX0_copyFrom_56 rfl ?_
  refine zJ_bipush (v := nI 6) dX0_copyFrom_57 rfl ?_
  refine zP_copy lc_X0_55 (zSt_ar hs 14 6 rfl) (zSt_ar hs 5 6 rfl) (sp := 0) (dp := 0) (n := 6) rfl rfl rfl (by decide) (by decide) (by decide) (Nat.le_of_ble_eq_true rfl) (by omega) dX0_copyFrom_59 ?_
  refine zJ_aload_n dX0_copyFrom_62 rfl ?_
  refine zP_getr lf_X0_28 (zSt_ob hs 12 0 rfl) rfl (zSt_rf hs 12 6 15 rfl) dX0_copyFrom_63 ?_
  refine zJ_iconst (v := nI 0) dX0_copyFrom_66 rfl ?_
  refine zJ_aload_n dX0_copyFrom_67 rfl ?_
  refine zP_getr lf_X0_28 (zSt_ob hs 3 0 rfl) rfl (zSt_rf hs 3 6 6 rfl) dX0_copyFrom_68 ?_
  refine zJ_iconst (v := nI 0) dX0_copyFrom_71 rfl ?_
  refine zJ_bipush (v := nI 6) dX0_copyFrom_72 rfl ?_
  refine zP_copy lc_X0_55 (zSt_ar hs 15 6 rfl) (zSt_ar hs 6 6 rfl) (sp := 0) (dp := 0) (n := 6) rfl rfl rfl (by decide) (by decide) (by decide) (Nat.le_of_ble_eq_true rfl) (by omega) dX0_copyFrom_74 ?_
  refine zJ_aload_n dX0_copyFrom_77 rfl ?_
  refine zP_getr lf_X0_31 (zSt_ob hs 12 0 rfl) rfl (zSt_rf hs 12 7 16 rfl) dX0_copyFrom_78 ?_
  refine zJ_iconst (v := nI 0) dX0_copyFrom_81 rfl ?_
  refine zJ_aload_n dX0_copyFrom_82 rfl ?_
  refine zP_getr lf_X0_31 (zSt_ob hs 3 0 rfl) rfl (zSt_rf hs 3 7 7 rfl) dX0_copyFrom_83 ?_
  refine zJ_iconst (v := nI 0) dX0_copyFrom_86 rfl ?_
  refine zJ_bipush (v := nI 24) dX0_copyFrom_87 rfl ?_
  refine zP_copy lc_X0_55 (zSt_ar hs 16 24 rfl) (zSt_ar hs 7 24 rfl) (sp := 0) (dp := 0) (n := 24) rfl rfl rfl (by decide) (by decide) (by decide) (Nat.le_of_ble_eq_true rfl) (by omega) dX0_copyFrom_89 ?_
  refine zJ_aload_n dX0_copyFrom_92 rfl ?_
  refine zP_getr lf_X0_34 (zSt_ob hs 12 0 rfl) rfl (zSt_rf hs 12 8 17 rfl) dX0_copyFrom_93 ?_
  refine zJ_iconst (v := nI 0) dX0_copyFrom_96 rfl ?_
  refine zJ_aload_n dX0_copyFrom_97 rfl ?_
  refine zP_getr lf_X0_34 (zSt_ob hs 3 0 rfl) rfl (zSt_rf hs 3 8 8 rfl) dX0_copyFrom_98 ?_
  refine zJ_iconst (v := nI 0) dX0_copyFrom_101 rfl ?_
  refine zJ_bipush (v := nI 64) dX0_copyFrom_102 rfl ?_
  refine zP_copy lc_X0_55 (zSt_ar hs 17 64 rfl) (zSt_ar hs 8 64 rfl) (sp := 0) (dp := 0) (n := 64) rfl rfl rfl (by decide) (by decide) (by decide) (Nat.le_of_ble_eq_true rfl) (by omega) dX0_copyFrom_104 ?_
  refine zJ_aload_n dX0_copyFrom_107 rfl ?_
  refine zP_getr lf_X0_37 (zSt_ob hs 12 0 rfl) rfl (zSt_rf hs 12 9 18 rfl) dX0_copyFrom_108 ?_
  refine zJ_iconst (v := nI 0) dX0_copyFrom_111 rfl ?_
  refine zJ_aload_n dX0_copyFrom_112 rfl ?_
  refine zP_getr lf_X0_37 (zSt_ob hs 3 0 rfl) rfl (zSt_rf hs 3 9 9 rfl) dX0_copyFrom_113 ?_
  refine zJ_iconst (v := nI 0) dX0_copyFrom_116 rfl ?_
  refine zJ_bipush (v := nI 64) dX0_copyFrom_117 rfl ?_
  refine zP_copy lc_X0_55 (zSt_ar hs 18 64 rfl) (zSt_ar hs 9 64 rfl) (sp := 0) (dp := 0) (n := 64) rfl rfl rfl (by decide) (by decide) (by decide) (Nat.le_of_ble_eq_true rfl) (by omega) dX0_copyFrom_119 ?_
  refine zJ_aload_n dX0_copyFrom_122 rfl ?_
  refine zP_getr lf_X0_40 (zSt_ob hs 12 0 rfl) rfl (zSt_rf hs 12 10 19 rfl) dX0_copyFrom_123 ?_
  refine zJ_iconst (v := nI 0) dX0_copyFrom_126 rfl ?_
  refine zJ_aload_n dX0_copyFrom_127 rfl ?_
  refine zP_getr lf_X0_40 (zSt_ob hs 3 0 rfl) rfl (zSt_rf hs 3 10 10 rfl) dX0_copyFrom_128 ?_
  refine zJ_iconst (v := nI 0) dX0_copyFrom_131 rfl ?_
  refine zJ_bipush (v := nI 64) dX0_copyFrom_132 rfl ?_
  refine zP_copy lc_X0_55 (zSt_ar hs 19 64 rfl) (zSt_ar hs 10 64 rfl) (sp := 0) (dp := 0) (n := 64) rfl rfl rfl (by decide) (by decide) (by decide) (Nat.le_of_ble_eq_true rfl) (by omega) dX0_copyFrom_134 ?_
  refine zJ_aload_n dX0_copyFrom_137 rfl ?_
  refine zP_getr lf_X0_43 (zSt_ob hs 12 0 rfl) rfl (zSt_rf hs 12 11 20 rfl) dX0_copyFrom_138 ?_
  refine zJ_iconst (v := nI 0) dX0_copyFrom_141 rfl ?_
  refine zJ_aload_n dX0_copyFrom_142 rfl ?_
  refine zP_getr lf_X0_43 (zSt_ob hs 3 0 rfl) rfl (zSt_rf hs 3 11 11 rfl) dX0_copyFrom_143 ?_
  refine zJ_iconst (v := nI 0) dX0_copyFrom_146 rfl ?_
  refine zJ_sipush (v := nI 256) dX0_copyFrom_147 rfl ?_
  refine zP_copy lc_X0_55 (zSt_ar hs 20 256 rfl) (zSt_ar hs 11 256 rfl) (sp := 0) (dp := 0) (n := 256) rfl rfl rfl (by decide) (by decide) (by decide) (Nat.le_of_ble_eq_true rfl) (by omega) dX0_copyFrom_150 ?_
  refine zJ_vret rfl dX0_copyFrom_153 ?_
  refine ⟨rfl, _, rfl, fun a ha => ?_, fun k hk => ?_, fun o n j ho hn hj => ?_, fun j hj => ?_, fun o j ho hj => ?_, fun j hj => ?_⟩
  · rw [va_up_row (by omega), va_up_row (by omega), va_up_row (by omega), va_up_row (by omega), va_up_row (by omega), va_up_row (by omega), va_up_row (by omega), va_up_row (by omega), zup_row (by omega), zup_row (by omega), zup_row (by omega), zup_row (by omega)]
  · rw [va_up_row (by decide), va_up_row (by decide), va_up_row (by decide), va_up_row (by decide), va_up_row (by decide), va_up_row (by decide), va_up_row (by decide), va_up_row (by decide)]
    have hk4 : k = 0 ∨ k = 1 ∨ k = 2 ∨ k = 3 := by omega
    rcases hk4 with rfl | rfl | rfl | rfl <;> simp [zup, va_up, upd]
  · subst hn
    rcases ho with rfl | rfl | rfl <;> simp [va_up, va_cpy, hj, zup]
  · simp [va_up, va_cpy, hj, zup]
  · rcases ho with rfl | rfl | rfl <;> simp [va_up, va_cpy, hj, zup]
  · simp [va_up, va_cpy, hj, zup]
/-- the board that a text tells: its world, its first row -/
def bdW (r : zRb) (lim : Nat → Int32) : zWo := ((rC r, rR r, rN r), fpc r, fpn r, rwd r, nI (rG r), lim, zLW, 15)
def bdR (r : zRb) (crt : Nat → Int32) : rwT := fun k => if k < 384 then -1 else if k < 448 then 0 else if k < 512 then (if fwl r (k - 448) then 1 else 0) else if k < 518 then crt (k - 512) else 0
theorem kpL_in {C R : Nat} {pn : Nat → Nat} : ∀ {i p : Nat}, p ∈ kpL C R pn i → insB C R p = true ∧ ∃ j, j < i ∧ p = pn j
  | 0, p, h => by cases h
  | i + 1, p, h => by
    simp only [kpL] at h
    split at h
    · next z =>
      simp only [Bool.and_eq_true] at z
      rcases List.mem_append.mp h with h | h
      · obtain ⟨h1, j, h2, h3⟩ := kpL_in h; exact ⟨h1, j, by omega, h3⟩
      · rw [List.mem_singleton.mp h]; exact ⟨z.1, i, by omega, rfl⟩
    · obtain ⟨h1, j, h2, h3⟩ := kpL_in h; exact ⟨h1, j, by omega, h3⟩
theorem kpL_nd {C R : Nat} {pn : Nat → Nat} : ∀ {i : Nat}, (kpL C R pn i).Nodup
  | 0 => List.nodup_nil
  | i + 1 => by
    have ih := kpL_nd (C := C) (R := R) (pn := pn) (i := i)
    simp only [kpL]
    split
    · next z =>
      simp only [Bool.and_eq_true, Bool.not_eq_true'] at z
      rw [List.nodup_append]
      refine ⟨ih, by simp, fun a ha b hb => ?_⟩
      rw [List.mem_singleton.mp hb]
      intro e
      rw [e] at ha
      have := List.contains_iff_mem.mpr ha
      rw [z.2] at this
      cases this
    · exact ih
theorem fpn_mem {r : zRb} {n i : Nat} (h : i < fpc r n) : fpn r n i ∈ fkp r n := by
  unfold fpn
  rw [List.getD_eq_getElem?_getD, List.getElem?_eq_getElem h]
  exact List.getElem_mem h
theorem bdW_ok {r : zRb} {lim : Nat → Int32} (h : rbOk r) : bdOk (bdW r lim) := by
  obtain ⟨⟨o1, o2, o3, o4, o5, o6⟩, o7, o8, o9, o10⟩ := h
  refine ⟨o1, o2, o3, o4, o5, fun n hn => Nat.le_trans fpc_le (o7 n hn).1, fun n i hn hi => ?_, fun n i j hn hij hj => ?_, o9, zLW_ok⟩
  · obtain ⟨h1, j, h2, h3⟩ := kpL_in (fpn_mem (r := r) hi)
    exact ⟨by show fpn r n i < 64; rw [h3]; exact o8 n j hn h2, h1⟩
  · show fpn r n i ≠ fpn r n j
    intro e
    have hj' : j < (fkp r n).length := hj
    have hi' : i < (fkp r n).length := by omega
    unfold fpn at e
    rw [List.getD_eq_getElem?_getD, List.getElem?_eq_getElem hi', List.getD_eq_getElem?_getD, List.getElem?_eq_getElem hj'] at e
    exact (List.pairwise_iff_getElem.mp (kpL_nd (C := rC r) (R := rR r) (pn := rpn r n) (i := rpc r n))) i j hi' hj' hij e
theorem pbB_eq {r : zRb} {lim : Nat → Int32} {p n : Nat} : pbB (bdW r lim) p n = fpb r p n := by
  unfold pbB fpb
  rw [Bool.eq_iff_iff, anyB_iff, List.contains_iff_mem]
  constructor
  · rintro ⟨i, hi, he⟩
    have hi' : i < fpc r n := hi
    have := of_decide_eq_true he
    rw [← this]
    exact fpn_mem hi'
  · intro h
    obtain ⟨i, hi, he⟩ := List.getElem_of_mem h
    refine ⟨i, hi, decide_eq_true ?_⟩
    show (fkp r n).getD i 0 = p
    rw [List.getD_eq_getElem?_getD, List.getElem?_eq_getElem hi]
    exact he
theorem bdR_tin {r : zRb} {crt : Nat → Int32} {n p : Nat} (hn : n < 6) (hp : p < 64) : tin (bdR r crt) n p = false := by
  unfold tin bdR
  rw [if_pos (by omega)]
  rfl
theorem usn_z {R : rwT} {p : Nat} (h : ∀ n, n < 6 → tin R n p = false) : usn R p = 0 := by
  unfold usn
  rw [cB_congr (f' := fun _ => false) (fun k hk => h k hk)]
  rfl
theorem bdR_ok {r : zRb} {lim crt : Nat → Int32} : okR (bdW r lim) (bdR r crt) := by
  refine ⟨fun n hn => ⟨fun _ => 0, fun p hp ht => ?_⟩, fun n p hn hp _ => bdR_tin hn hp, fun p hp => ?_, fun p hp => ⟨0, by decide, ?_⟩⟩
  · rw [bdR_tin hn hp] at ht; cases ht
  · unfold bdR
    rw [if_neg (by omega), if_neg (by omega), if_pos (by omega)]
    cases fwl r (448 + p - 448)
    · exact Or.inl rfl
    · exact Or.inr rfl
  · unfold bdR
    rw [if_neg (by omega), if_pos (by omega)]; rfl
theorem start_row {r : zRb} {crt : Nat → Int32} (h10 : ∀ p, p < 64 → I 10 p = if fwl r p then 1 else 0) (h4 : ∀ n, n < 6 → I 4 n = crt n) : zRow (f_start I 62 3) 62 (bdR r crt) ∧ ∀ a, (a < 62 ∨ 67 < a) → f_start I 62 3 a = I a := by
  refine ⟨⟨fun k hk => ?_, fun p hp => ?_, fun p hp => ?_, fun p hp => ?_, fun n hn => ?_, ?_⟩, fun a ha => ?_⟩
  · unfold bdR; rw [if_pos hk]
    simp [f_start, va_up, zup, cpRow, fillR, hk]
  · rw [usn_z (fun n hn => bdR_tin hn hp)]
    simp [f_start, va_up, zup, cpRow, fillR, hp, nI0]
  · unfold bdR; rw [if_neg (by omega), if_pos (by omega)]
    simp [f_start, va_up, zup, cpRow, fillR, hp, nI0]
  · unfold bdR; rw [if_neg (by omega), if_neg (by omega), if_pos (by omega), Nat.add_sub_cancel_left, ← h10 p hp]
    simp [f_start, va_up, zup, cpRow, fillR, hp, va_cpy]
  · unfold bdR; rw [if_neg (by omega), if_neg (by omega), if_neg (by omega), if_pos (by omega), Nat.add_sub_cancel_left, ← h4 n hn]
    simp [f_start, va_up, zup, cpRow, fillR, hn, va_cpy]
  · unfold bdR; rw [if_neg (by omega), if_neg (by omega), if_neg (by omega), if_neg (by omega)]
    simp [f_start, va_up, zup, cpRow, fillR, upd, nI0]
  · simp [f_start, va_up, zup, cpRow, show a ≠ 62 by omega, show a ≠ 63 by omega, show a ≠ 64 by omega, show a ≠ 65 by omega, show a ≠ 66 by omega, show a ≠ 67 by omega]
def feedB (bs : Nat → Nat) (fed : Nat) (a b c e f : Int32) : Nat → Nat := apd (apd (apd (apd (apd bs fed a 4) (fed + 4) b 4) (fed + 8) c 4) (fed + 12) e 4) (fed + 16) f 4
theorem cI_tape {J : zI} {S : sT} {fed : Nat} {bs : Nat → Nat} {fl : Int32} (h : cI I g S) (e : ∀ a, a ≠ 1 → a ≠ 2 → (a < 12 ∨ 20 < a) → (a < 25 ∨ 28 < a) → (a < 32 ∨ 40 < a) → J a = I a) (ht : tp J fed bs) (hf : J 1 6 = fl) : cI J g ((fed, bs, fl), S.2) ∧ fC I J := by
  obtain ⟨h1, h2, h3, h4, h5, h6, h7⟩ := h
  exact ⟨⟨ht, hf, zWi_of h3 (fun a ha => e a (by omega) (by omega) (by omega) (by omega) (by omega)), zRow_of h4 (fun a q1 q2 => e a (by omega) (by omega) (by omega) (by omega) (by omega)), zBk_of h5 (fun a q1 q2 => e a (by omega) (by omega) (by omega) (by omega) (by omega)), shI_of h6 (fun q hq => e q (by omega) (by omega) (by omega) (by omega) (by omega)), by rw [e 0 (by decide) (by decide) (by decide) (by decide) (by decide)]; exact h7⟩, fun a q1 q2 => e a (by omega) (by omega) (by omega) (by omega) (by omega)⟩
def feedS (S : sT) (a b c e f : Int32) : sT := if 600 < S.1.1 + 20 then S else ((S.1.1 + 20, feedB S.1.2.1 S.1.1 a b c e f, S.1.2.2), S.2)
def feedV (S : sT) : Int32 := if 600 < S.1.1 + 20 then -1 else nI (S.1.1 + 20)
theorem k_feed (hl : l.stackTraces = false) (hd : 12 ≤ d) (hs : zSt g) {S : sT} (hI : cI I g S) {a b c e f : Int32} : zEi l Xi mX12_feed d [.ref 0, .int a, .int b, .int c, .int e, .int f] I g (fun v J => v = feedV S ∧ cI J g (feedS S a b c e f) ∧ fC I J) := by
  refine zC_of hl rfl rfl rfl (Nat.le_of_ble_eq_true rfl) (zav_r (zSt_ob hs 0 12 rfl).1 (zav_i (zav_i (zav_i (zav_i (zav_i zav_0)))))) ?_
  have ht := hI.1
  have hfl := hI.2.1
  obtain ⟨fed, hfed⟩ : ∃ n, S.1.1 = n := ⟨_, rfl⟩
  unfold feedV feedS
  rw [hfed] at ht ⊢
  have hf6 := ht.2.1
  by_cases hz : 600 < fed + 20
  · rw [if_pos hz, if_pos hz]
    refine zJ_aload_n dX12_feed_0 rfl ?_
    refine zP_getr lf_X12_12 (zSt_ob hs 0 12 rfl) rfl (zSt_rf hs 0 0 1 rfl) dX12_feed_1 ?_
    refine zP_geti lf_X12_107 (zSt_ob hs 1 10 rfl) rfl dX12_feed_4 ?_
    rw [ht.1]
    refine zJ_bipush (v := nI 20) dX12_feed_7 rfl ?_
    refine zJ_iadd dX12_feed_9 ?_
    rw [nI_add]
    refine zJ_sipush (v := nI 600) dX12_feed_10 rfl ?_
    refine zJ_icmp_le 18 dX12_feed_13 (by decide) (fun c13 => absurd c13 (fun z => absurd ((nI_leI (by omega) (by omega)).mp z) (by omega))) (fun _ => ?_)
    refine zJ_iconst (v := -1) dX12_feed_16 rfl ?_
    refine zJ_iret rfl dX12_feed_17 ?_
    exact ⟨_, I, rfl, rfl, rfl, cQ hI fQ_rfl⟩
  · rw [if_neg hz, if_neg hz]
    refine zJ_aload_n dX12_feed_0 rfl ?_
    refine zP_getr lf_X12_12 (zSt_ob hs 0 12 rfl) rfl (zSt_rf hs 0 0 1 rfl) dX12_feed_1 ?_
    refine zP_geti lf_X12_107 (zSt_ob hs 1 10 rfl) rfl dX12_feed_4 ?_
    rw [ht.1]
    refine zJ_bipush (v := nI 20) dX12_feed_7 rfl ?_
    refine zJ_iadd dX12_feed_9 ?_
    rw [nI_add]
    refine zJ_sipush (v := nI 600) dX12_feed_10 rfl ?_
    refine zJ_icmp_le 18 dX12_feed_13 (by decide) (fun _ => ?_) (fun c13 => absurd ((nI_leI (by omega) (by omega)).mpr (by omega)) c13)
    refine zJ_aload_n dX12_feed_18 rfl ?_
    refine zP_getr lf_X12_12 (zSt_ob hs 0 12 rfl) rfl (zSt_rf hs 0 0 1 rfl) dX12_feed_19 ?_
    refine zJ_iload_n dX12_feed_22 rfl ?_
    refine zP_ecallVv [_] _ lv_X12_111 (k_append (d := d - 1) hl (by omega) hs ht (by omega)) (zSt_ob hs 1 10 rfl) rfl (by omega) (Nat.le_of_ble_eq_true rfl) rfl dX12_feed_23 (fun J1 h1 => ?_)
    refine zJ_aload_n dX12_feed_26 rfl ?_
    refine zP_getr lf_X12_12 (zSt_ob hs 0 12 rfl) rfl (zSt_rf hs 0 0 1 rfl) dX12_feed_27 ?_
    refine zJ_iload_n dX12_feed_30 rfl ?_
    refine zP_ecallVv [_] _ lv_X12_111 (k_append (d := d - 1) hl (by omega) hs h1.2.2 (by omega)) (zSt_ob hs 1 10 rfl) rfl (by omega) (Nat.le_of_ble_eq_true rfl) rfl dX12_feed_31 (fun J2 h2 => ?_)
    refine zJ_aload_n dX12_feed_34 rfl ?_
    refine zP_getr lf_X12_12 (zSt_ob hs 0 12 rfl) rfl (zSt_rf hs 0 0 1 rfl) dX12_feed_35 ?_
    refine zJ_iload_n dX12_feed_38 rfl ?_
    refine zP_ecallVv [_] _ lv_X12_111 (k_append (d := d - 1) hl (by omega) hs h2.2.2 (by omega)) (zSt_ob hs 1 10 rfl) rfl (by omega) (Nat.le_of_ble_eq_true rfl) rfl dX12_feed_39 (fun J3 h3 => ?_)
    refine zJ_aload_n dX12_feed_42 rfl ?_
    refine zP_getr lf_X12_12 (zSt_ob hs 0 12 rfl) rfl (zSt_rf hs 0 0 1 rfl) dX12_feed_43 ?_
    refine zJ_iload dX12_feed_46 rfl ?_
    refine zP_ecallVv [_] _ lv_X12_111 (k_append (d := d - 1) hl (by omega) hs h3.2.2 (by omega)) (zSt_ob hs 1 10 rfl) rfl (by omega) (Nat.le_of_ble_eq_true rfl) rfl dX12_feed_48 (fun J4 h4 => ?_)
    refine zJ_aload_n dX12_feed_51 rfl ?_
    refine zP_getr lf_X12_12 (zSt_ob hs 0 12 rfl) rfl (zSt_rf hs 0 0 1 rfl) dX12_feed_52 ?_
    refine zJ_iload dX12_feed_55 rfl ?_
    refine zP_ecallVv [_] _ lv_X12_111 (k_append (d := d - 1) hl (by omega) hs h4.2.2 (by omega)) (zSt_ob hs 1 10 rfl) rfl (by omega) (Nat.le_of_ble_eq_true rfl) rfl dX12_feed_57 (fun J5 h5 => ?_)
    refine zJ_aload_n dX12_feed_60 rfl ?_
    refine zP_getr lf_X12_12 (zSt_ob hs 0 12 rfl) rfl (zSt_rf hs 0 0 1 rfl) dX12_feed_61 ?_
    refine zP_geti lf_X12_107 (zSt_ob hs 1 10 rfl) rfl dX12_feed_64 ?_
    refine zJ_iret rfl dX12_feed_67 ?_
    have hF : ∀ q, q ≠ 1 → q ≠ 2 → J5 q = I q := fun q p1 p2 => by rw [h5.1 q p1 p2, h4.1 q p1 p2, h3.1 q p1 p2, h2.1 q p1 p2, h1.1 q p1 p2]
    have h6 : J5 1 6 = S.1.2.2 := by rw [h5.2.1 6 (by decide), h4.2.1 6 (by decide), h3.2.1 6 (by decide), h2.2.1 6 (by decide), h1.2.1 6 (by decide)]; exact hfl
    exact ⟨_, J5, rfl, rfl, h5.2.2.1, cI_tape hI (fun q p1 p2 _ _ _ => hF q p1 p2) h5.2.2 h6⟩
/-- what a board's text makes of the whole -/
def bdS (S : sT) (r : zRb) (lim crt : Nat → Int32) : sT := ((0, S.1.2.1, -1), bdW r lim, bdR r crt, [], (0, S.2.2.2.2.1.2), (0, S.2.2.2.2.2.1.2), (0, S.2.2.2.2.2.2.2))
theorem bdS_ok {S : sT} {r : zRb} {lim crt : Nat → Int32} (h : rbOk r) : okS (bdS S r lim crt) := ⟨⟨rG r, h.1.2.2.2.2.2, rfl⟩, bdR_ok, fun i hi => absurd hi (Nat.not_lt_zero _), fun k hk => absurd hk (Nat.not_lt_zero _)⟩
theorem k_startAnew (hl : l.stackTraces = false) (hd : 6 ≤ d) (hs : zSt g) {S : sT} {r : zRb} (hr : cFin I 3 r) (hok : rbOk r) (ht : tp I 0 S.1.2.1) (hf : I 1 6 = -1) (hsh : ∃ lab, shG g lab) (hns : I 0 16 = S.2.2.2.2.2.2.2.1) (hwr : I 0 17 = S.2.2.2.2.2.2.2.2) : zEv l Xi mX12_startAnew d [.ref 0] I g (fun J => fC I J ∧ ∃ lim crt, (∀ n, n < rN r → lim n = nI (rlm r n) ∧ crt n = nI (rcr r n)) ∧ cI J g (bdS S r lim crt) ∧ J 3 2 = nI (rN r)) := by
  refine zC_of hl rfl rfl rfl (Nat.le_of_ble_eq_true rfl) (zav_r (zSt_ob hs 0 12 rfl).1 zav_0) ?_
  obtain ⟨⟨c1, c2, c3, c4⟩, c5, c6, c7, c8, c9, c10, c11⟩ := hr
  obtain ⟨sr, sf⟩ := start_row (crt := I 4) c9 (fun n _ => rfl)
  refine zJ_aload_n dX12_startAnew_0 rfl ?_
  refine zP_getr lf_X12_97 (zSt_ob hs 0 12 rfl) rfl (zSt_rf hs 0 13 62 rfl) dX12_startAnew_1 ?_
  refine zJ_aload_n dX12_startAnew_4 rfl ?_
  refine zP_getr lf_X12_19 (zSt_ob hs 0 12 rfl) rfl (zSt_rf hs 0 1 3 rfl) dX12_startAnew_5 ?_
  refine zP_callVv [_] _ lv_X12_359 (k_X8_start (d := d - 1) hl (by omega) (zSt_state hs) (zSt_board hs)) (zSt_ob hs 62 8 rfl) rfl (by omega) (Nat.le_of_ble_eq_true rfl) rfl dX12_startAnew_8 ?_
  refine zJ_aload_n dX12_startAnew_11 rfl ?_
  refine zP_getr lf_X12_29 (zSt_ob hs 0 12 rfl) rfl (zSt_rf hs 0 3 21 rfl) dX12_startAnew_12 ?_
  refine zP_ecallVv [] _ lv_X12_362 (k_lawForget (d := d - 1) hl (by omega) (zSt_law hs)) (zSt_ob hs 21 5 rfl) rfl (by omega) (Nat.le_of_ble_eq_true rfl) rfl dX12_startAnew_15 (fun J1 h1 => ?_)
  refine zJ_aload_n dX12_startAnew_18 rfl ?_
  refine zP_getr lf_X12_39 (zSt_ob hs 0 12 rfl) rfl (zSt_rf hs 0 5 29 rfl) dX12_startAnew_19 ?_
  refine zP_callVv [] _ lv_X12_365 (k_X1_forget (d := d - 1) hl (by omega) (zSt_book hs)) (zSt_ob hs 29 1 rfl) rfl (by omega) (Nat.le_of_ble_eq_true rfl) rfl dX12_startAnew_22 ?_
  refine zJ_aload_n dX12_startAnew_25 rfl ?_
  refine zP_getr lf_X12_90 (zSt_ob hs 0 12 rfl) rfl (zSt_rf hs 0 12 57 rfl) dX12_startAnew_26 ?_
  refine zP_callVv [] _ lv_X12_366 (k_shelfForget (d := d - 1) hl (by omega) hs) (zSt_ob hs 57 7 rfl) rfl (by omega) (Nat.le_of_ble_eq_true rfl) rfl dX12_startAnew_29 ?_
  refine zJ_aload_n dX12_startAnew_32 rfl ?_
  refine zJ_iconst (v := nI 0) dX12_startAnew_33 rfl ?_
  refine zP_puti lf_X12_160 (zSt_ob hs 0 12 rfl) rfl dX12_startAnew_34 ?_
  refine zJ_vret rfl dX12_startAnew_37 ?_
  obtain ⟨g1, g2, g3, g4⟩ := h1
  obtain ⟨J, hJ⟩ : ∃ J, zup (zup (zup (zup J1 29 0 (nI 0)) 57 0 (nI 0)) 57 1 (nI 0)) 0 15 (nI 0) = J := ⟨_, rfl⟩
  have e : ∀ a, a ≠ 0 → a ≠ 21 → a ≠ 23 → a ≠ 29 → a ≠ 57 → (a < 62 ∨ 67 < a) → J a = I a := fun a p0 p1 p2 p3 p4 p5 => by rw [← hJ, zup_row p0, zup_row p4, zup_row p4, zup_row p3, g1 a p1 p2, sf a p5]
  have e62 : ∀ a, 62 ≤ a → a ≤ 67 → J a = f_start I 62 3 a := fun a p1 p2 => by rw [← hJ, zup_row (by omega), zup_row (by omega), zup_row (by omega), zup_row (by omega), g1 a (by omega) (by omega)]
  have e0 : ∀ k, k ≠ 15 → J 0 k = I 0 k := fun k hk => by rw [← hJ, zup_same, upd_ne hk, zup_row (by decide), zup_row (by decide), zup_row (by decide), g1 0 (by decide) (by decide), sf 0 (by decide)]
  refine ⟨rfl, _, rfl, ?_⟩
  first
    | rw [hJ]
    | skip
  refine ⟨fun a p1 p2 => e a (by omega) (by omega) (by omega) (by omega) (by omega) (by omega), I 5, I 4, fun n hn => ⟨(c5 n hn).2, (c5 n hn).1⟩, ⟨tp_of ht (e 1 (by decide) (by decide) (by decide) (by decide) (by decide) (by decide)) (e 2 (by decide) (by decide) (by decide) (by decide) (by decide) (by decide)), by rw [e 1 (by decide) (by decide) (by decide) (by decide) (by decide) (by decide)]; exact hf, ?_, zRow_of sr (fun a p1 p2 => e62 a p1 p2), ⟨?_, Nat.zero_le _, fun i hi => absurd hi (Nat.not_lt_zero _)⟩, ⟨⟨?_, Nat.zero_le _, ?_, Nat.zero_le _⟩, hsh, fun i hi => absurd hi (Nat.not_lt_zero _), fun k hk => absurd hk (Nat.not_lt_zero _)⟩, ?_, ?_, ?_⟩, ?_⟩
  · have e' : ∀ a, 3 ≤ a → a ≤ 11 → J a = I a := fun a p1 p2 => e a (by omega) (by omega) (by omega) (by omega) (by omega) (by omega)
    have hb := bdW_ok (lim := I 5) hok
    refine ⟨hb, ⟨by rw [e' 3 (by omega) (by omega)]; exact c1, by rw [e' 3 (by omega) (by omega)]; exact c2, by rw [e' 3 (by omega) (by omega)]; exact c3, hok.1.2.1, hok.1.2.2.2.1, hok.1.2.2.2.2.1, fun n hn => ⟨by rw [e' (3 + 3) (by omega) (by omega)]; exact c6 n hn, hb.2.2.2.2.2.1 n hn⟩, fun n i hn hi => ⟨by rw [e' (3 + 4) (by omega) (by omega)]; exact c7 n i hn hi, (hb.2.2.2.2.2.2.1 n i hn hi).1⟩⟩, by rw [e' 3 (by omega) (by omega)]; exact c4, fun n hn => by rw [e' 5 (by omega) (by omega)]; rfl, fun p hp => by rw [e' 9 (by omega) (by omega)]; exact c8 p hp, fun p hp => ?_, fun p v hp hv => by rw [e' 11 (by omega) (by omega)]; exact c11 p v hp hv, ?_, fun i hi => ?_, fun n h1 h2 => ?_⟩
    · rw [e' 8 (by omega) (by omega), show (8 : Nat) = 3 + 5 from rfl, c10 p hp]
      exact bitF_congr (fun k hk => pbB_eq.symm)
    · rw [← hJ, zup_row (by decide), zup_row (by decide), zup_row (by decide), zup_row (by decide)]; exact g3
    · rw [← hJ, zup_row (by decide), zup_row (by decide), zup_row (by decide), zup_row (by decide)]; exact g4 i hi
    · have h9 : fpc r n ≤ rpc r n := fpc_le
      rw [(hok.2.1 n h2).2 h1] at h9
      show fpc r n = 0
      omega
  · rw [← hJ, zup_row (by decide), zup_row (by decide), zup_row (by decide), zup_same, upd_at]; rfl
  · rw [← hJ, zup_row (by decide), zup_same, upd_ne (by decide), zup_same, upd_at]; rfl
  · rw [← hJ, zup_row (by decide), zup_same, upd_at]; rfl
  · rw [← hJ, zup_same, upd_at]; rfl
  · rw [e0 16 (by decide)]; exact hns
  · rw [e0 17 (by decide)]; exact hwr
  · rw [e 3 (by decide) (by decide) (by decide) (by decide) (by decide) (by decide)]; exact c3
def errV (q : Nat × Nat) : Int32 := nI q.1 - nI 10
def fltS (S : sT) (w : Nat) : sT := ((0, S.1.2.1, nI w), S.2)
theorem tX_tp {bs : Nat → Nat} {L A F : Nat} {e : Option (Nat × Nat)} (h : tX I bs L A F e) : tp I 0 bs ∧ I 1 6 = eW e := ⟨⟨h.1.1, Nat.zero_le _, fun k hk => tX_by h hk⟩, tX_w h⟩
/-- how board ends -/
def bdQ (S : sT) (L : Nat) (g : zG) (I : zI) (v : Int32) (J : zI) : Prop := fC I J ∧ match pBoard S.1.2.1 L 61 0 rb0 0 with
  | .inl q => v = errV q ∧ cI J g (fltS S q.2)
  | .inr q => v = nI (rN q.1) ∧ rbOk q.1 ∧ ∃ lim crt, (∀ n, n < rN q.1 → lim n = nI (rlm q.1 n) ∧ crt n = nI (rcr q.1 n)) ∧ cI J g (bdS S q.1 lim crt)
theorem k_length {S : sT} (hI : cI I g S) {L mo : Nat} (h1 : L ≤ mo) (h2 : L ≤ S.1.1) (hm : mo ≤ 600) : ¬ nI L < 0 ∧ ¬ nI mo < nI L ∧ nI L ≤ I 1 1 := by
  have h6 := hI.1.2.1
  exact ⟨nI_pos (by omega), nI_nlt h1 (by omega), by rw [hI.1.1]; exact (nI_leI (by omega) (by omega)).mpr h2⟩
theorem k_board (hl : l.stackTraces = false) (hd : 12 ≤ d) (hs : zSt g) {S : sT} (hI : cI I g S) {L : Nat} (hL : L ≤ S.1.1) : zEi l Xi mX12_board d [.ref 0, .int (nI L)] I g (bdQ S L g I) := by
  refine zC_of hl rfl rfl rfl (Nat.le_of_ble_eq_true rfl) (zav_r (zSt_ob hs 0 12 rfl).1 (zav_i zav_0)) ?_
  have h600 := hI.1.2.1
  have hI0 := hI
  obtain ⟨i1, i2, i3, i4, i5, i6, i7, i8, i9⟩ := hI0
  obtain ⟨P, hP⟩ : ∃ P, pBoard S.1.2.1 L 61 0 rb0 0 = P := ⟨_, rfl⟩
  unfold bdQ
  rw [hP]
  refine zJ_aload_n dX12_board_0 rfl ?_
  refine zJ_iload_n dX12_board_1 rfl ?_
  refine zJ_sipush (v := nI 600) dX12_board_2 rfl ?_
  refine zP_callVv [_, _] _ lv_X12_115 (k_needLength (d := d - 1) hl (by omega) hs (k_length hI (by omega) hL (by omega))) (zSt_ob hs 0 12 rfl) rfl (by omega) (Nat.le_of_ble_eq_true rfl) rfl dX12_board_5 ?_
  refine zJ_aload_n dX12_board_8 rfl ?_
  refine zP_getr lf_X12_12 (zSt_ob hs 0 12 rfl) rfl (zSt_rf hs 0 0 1 rfl) dX12_board_9 ?_
  refine zJ_iload_n dX12_board_12 rfl ?_
  refine zP_ecallVv [_] _ lv_X12_119 (k_begin (d := d - 1) hl (by omega) hs i1 (by omega)) (zSt_ob hs 1 10 rfl) rfl (by omega) (Nat.le_of_ble_eq_true rfl) rfl dX12_board_13 (fun J1 h1 => ?_)
  refine zJ_aload_n dX12_board_16 rfl ?_
  refine zP_getr lf_X12_23 (zSt_ob hs 0 12 rfl) rfl (zSt_rf hs 0 2 12 rfl) dX12_board_17 ?_
  refine zJ_aload_n dX12_board_20 rfl ?_
  refine zP_getr lf_X12_12 (zSt_ob hs 0 12 rfl) rfl (zSt_rf hs 0 0 1 rfl) dX12_board_21 ?_
  refine zP_ecallVv [_] _ lv_X12_122 (k_read0 (d := d - 1) hl (by omega) hs h1.2) (zSt_ob hs 12 0 rfl) rfl (by omega) (Nat.le_of_ble_eq_true rfl) rfl dX12_board_24 (fun J2 h2 => ?_)
  obtain ⟨f2, A2, F2, p2⟩ := h2
  rw [hP] at p2
  refine zJ_aload_n dX12_board_27 rfl ?_
  refine zP_getr lf_X12_12 (zSt_ob hs 0 12 rfl) rfl (zSt_rf hs 0 0 1 rfl) dX12_board_28 ?_
  refine zP_callVi [] _ lv_X12_126 (k_failedP (d := d - 1) hl (by omega) hs p2) (zSt_ob hs 1 10 rfl) rfl (by omega) (Nat.le_of_ble_eq_true rfl) rfl dX12_board_31 ?_
  refine zJ_if_eq 48 dX12_board_34 (by decide) (fun c34 => ?_) (fun c34 => ?_)
  · replace c34 := zb0.mp c34
    obtain ⟨r, hr, hr1, hr2⟩ := toE_ok p2 c34
    rw [hr] at p2 ⊢
    obtain ⟨tp2, fl2⟩ := tX_tp p2.1
    have fAll : ∀ a, a ≠ 1 → (a < 12 ∨ 20 < a) → J2 a = I a := fun a q1 q2 => by rw [f2 a q1 (by omega), h1.1 a q1]
    refine zJ_aload_n dX12_board_48 rfl ?_
    refine zP_getr lf_X12_19 (zSt_ob hs 0 12 rfl) rfl (zSt_rf hs 0 1 3 rfl) dX12_board_49 ?_
    refine zJ_aload_n dX12_board_52 rfl ?_
    refine zP_getr lf_X12_23 (zSt_ob hs 0 12 rfl) rfl (zSt_rf hs 0 2 12 rfl) dX12_board_53 ?_
    refine zP_ecallVv [_] _ lv_X12_133 (k_boardCopy (d := d - 1) hl (by omega) hs) (zSt_ob hs 3 0 rfl) rfl (by omega) (Nat.le_of_ble_eq_true rfl) rfl dX12_board_56 (fun J3 h3 => ?_)
    obtain ⟨b1, b2, b3, b4, b5, b6⟩ := h3
    have hfin : cFin J3 3 r := ⟨⟨by rw [b2 0 (by decide)]; exact hr1.1.1, by rw [b2 1 (by decide)]; exact hr1.1.2.1, by rw [b2 2 (by decide)]; exact hr1.1.2.2.1, by rw [b2 3 (by decide)]; exact hr1.1.2.2.2⟩, fun n hn => ⟨by rw [b3 1 6 n (by decide) rfl (by have := hr2.1.2.2.2.2.1; omega)]; exact (hr1.2.1 n hn).1, by rw [b3 2 6 n (by decide) rfl (by have := hr2.1.2.2.2.2.1; omega)]; exact (hr1.2.1 n hn).2⟩, fun n hn => by rw [b3 3 6 n (by decide) rfl hn]; exact hr1.2.2.1 n hn, fun n i hn hi => by rw [show 3 + 4 = 7 from rfl, b4 _ (by have h9 : fpc r n ≤ rpc r n := fpc_le; have := (hr2.2.1 n hn).1; omega)]; exact hr1.2.2.2.1 n i hn hi, fun p hp => by rw [b5 6 p (by decide) hp]; exact hr1.2.2.2.2.1 p hp, fun p hp => by rw [b5 7 p (by decide) hp]; exact hr1.2.2.2.2.2.1 p hp, fun p hp => by rw [b5 5 p (by decide) hp]; exact hr1.2.2.2.2.2.2.1 p hp, fun p v hp hv => by rw [show 3 + 8 = 11 from rfl, b6 _ (by omega)]; exact hr1.2.2.2.2.2.2.2 p v hp hv⟩
    refine zJ_aload_n dX12_board_59 rfl ?_
    refine zP_ecallVv [] _ lv_X12_104 (k_startAnew (S := S) (d := d - 1) hl (by omega) hs hfin hr2 (tp_of tp2 (b1 1 (by decide)) (b1 2 (by decide))) (by rw [b1 1 (by decide)]; exact fl2) i6.2.1 (by rw [b1 0 (by decide), fAll 0 (by decide) (by decide)]; exact i8) (by rw [b1 0 (by decide), fAll 0 (by decide) (by decide)]; exact i9)) (zSt_ob hs 0 12 rfl) rfl (by omega) (Nat.le_of_ble_eq_true rfl) rfl dX12_board_60 (fun J4 h4 => ?_)
    obtain ⟨s1, lim, crt, s2, s3, s4⟩ := h4
    refine zJ_aload_n dX12_board_63 rfl ?_
    refine zP_getr lf_X12_19 (zSt_ob hs 0 12 rfl) rfl (zSt_rf hs 0 1 3 rfl) dX12_board_64 ?_
    refine zP_geti lf_X12_136 (zSt_ob hs 3 0 rfl) rfl dX12_board_67 ?_
    refine zJ_iret rfl dX12_board_70 ?_
    refine ⟨_, J4, rfl, rfl, fun a q1 q2 => by rw [s1 a q1 q2, b1 a (by omega), fAll a (by omega) (by omega)], s4, hr2, lim, crt, s2, s3⟩
  · replace c34 := zb1.mp c34
    refine zJ_aload_n dX12_board_37 rfl ?_
    refine zP_getr lf_X12_12 (zSt_ob hs 0 12 rfl) rfl (zSt_rf hs 0 0 1 rfl) dX12_board_38 ?_
    refine zP_geti lf_X12_130 (zSt_ob hs 1 10 rfl) rfl dX12_board_41 ?_
    obtain ⟨q, rfl⟩ := toE_no c34
    rw [tX_k p2.1]
    refine zJ_bipush (v := nI 10) dX12_board_44 rfl ?_
    refine zJ_isub dX12_board_46 ?_
    refine zJ_iret rfl dX12_board_47 ?_
    obtain ⟨tp2, fl2⟩ := tX_tp p2.1
    have h9 := cI_tape hI (fun a q1 q2 q3 _ _ => by rw [f2 a q1 (by omega), h1.1 a q1]) tp2 fl2
    exact ⟨_, J2, rfl, rfl, h9.2, rfl, h9.1⟩
end ZX12e
