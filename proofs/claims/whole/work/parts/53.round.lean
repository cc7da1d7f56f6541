/-! ===== Router: a round, a net laid anew, a step ===== -/
section ZRound
variable {l : Launch} {Xi : zXi} {d : Nat} {I : zI} {g : zG}
theorem usn_congr {R R' : Nat → Int32} {p : Nat} (hp : p < 64) (h : ∀ k, k < 384 → R' k = R k) : usn R' p = usn R p := cB_congr (fun m hm => tin_congr (h _ (by omega)))
theorem ovN_congr {b : zWo} {R R' : Nat → Int32} {p : Nat} (hp : p < 64) (h : ∀ k, k < 384 → R' k = R k) : ovN b R' p = ovN b R p := by unfold ovN; rw [usn_congr hp h]
theorem zRow_h {s p : Nat} {R : Nat → Int32} {x : Int32} (hp : p < 64) (h : zRow I s R) : zRow (zup I (s + 3) p x) s (upd R (384 + p) x) := by
  obtain ⟨h1, h2, h3, h4, h5, h6⟩ := h
  refine ⟨fun k hk => ?_, fun q hq => ?_, fun q hq => ?_, fun q hq => ?_, fun m hm => ?_, ?_⟩
  · rw [zup_row (by omega), upd_ne (by omega)]; exact h1 k hk
  · rw [zup_row (by omega), usn_congr hq (fun k hk => upd_ne (by omega))]; exact h2 q hq
  · rw [zup_same]
    by_cases e : q = p
    · rw [e, upd_at, upd_at]
    · rw [upd_ne e, upd_ne (by omega)]; exact h3 q hq
  · rw [zup_row (by omega), upd_ne (by omega)]; exact h4 q hq
  · rw [zup_row (by omega), upd_ne (by omega)]; exact h5 m hm
  · rw [zup_row (by omega), upd_ne (by omega)]; exact h6
theorem zRow_wl {s p : Nat} {R : Nat → Int32} {x : Int32} (hp : p < 64) (h : zRow I s R) : zRow (zup I (s + 4) p x) s (upd R (448 + p) x) := by
  obtain ⟨h1, h2, h3, h4, h5, h6⟩ := h
  refine ⟨fun k hk => ?_, fun q hq => ?_, fun q hq => ?_, fun q hq => ?_, fun m hm => ?_, ?_⟩
  · rw [zup_row (by omega), upd_ne (by omega)]; exact h1 k hk
  · rw [zup_row (by omega), usn_congr hq (fun k hk => upd_ne (by omega))]; exact h2 q hq
  · rw [zup_row (by omega), upd_ne (by omega)]; exact h3 q hq
  · rw [zup_same]
    by_cases e : q = p
    · rw [e, upd_at, upd_at]
    · rw [upd_ne e, upd_ne (by omega)]; exact h4 q hq
  · rw [zup_row (by omega), upd_ne (by omega)]; exact h5 m hm
  · rw [zup_row (by omega), upd_ne (by omega)]; exact h6
theorem zRow_cr {s n : Nat} {R : Nat → Int32} {x : Int32} (hn : n < 6) (h : zRow I s R) : zRow (zup I (s + 5) n x) s (upd R (512 + n) x) := by
  obtain ⟨h1, h2, h3, h4, h5, h6⟩ := h
  refine ⟨fun k hk => ?_, fun q hq => ?_, fun q hq => ?_, fun q hq => ?_, fun m hm => ?_, ?_⟩
  · rw [zup_row (by omega), upd_ne (by omega)]; exact h1 k hk
  · rw [zup_row (by omega), usn_congr hq (fun k hk => upd_ne (by omega))]; exact h2 q hq
  · rw [zup_row (by omega), upd_ne (by omega)]; exact h3 q hq
  · rw [zup_row (by omega), upd_ne (by omega)]; exact h4 q hq
  · rw [zup_same]
    by_cases e : m = n
    · rw [e, upd_at, upd_at]
    · rw [upd_ne e, upd_ne (by omega)]; exact h5 m hm
  · rw [zup_row (by omega), upd_ne (by omega)]; exact h6
theorem zRow_rd {s : Nat} {R : Nat → Int32} {x : Int32} (h : zRow I s R) : zRow (zup I s 5 x) s (upd R 518 x) := by
  obtain ⟨h1, h2, h3, h4, h5, h6⟩ := h
  refine ⟨fun k hk => ?_, fun q hq => ?_, fun q hq => ?_, fun q hq => ?_, fun m hm => ?_, ?_⟩
  · rw [zup_row (by omega), upd_ne (by omega)]; exact h1 k hk
  · rw [zup_row (by omega), usn_congr hq (fun k hk => upd_ne (by omega))]; exact h2 q hq
  · rw [zup_row (by omega), upd_ne (by omega)]; exact h3 q hq
  · rw [zup_row (by omega), upd_ne (by omega)]; exact h4 q hq
  · rw [zup_row (by omega), upd_ne (by omega)]; exact h5 m hm
  · rw [zup_same, upd_at, upd_at]
def ripN (R : Nat → Int32) (n k : Nat) : Nat → Int32 := fun j => if n * 64 ≤ j ∧ j < n * 64 + k then -1 else R j
theorem drop_N {s n : Nat} {R : Nat → Int32} (hn : n < 6) (hR : zRow I s R) : ∀ {k : Nat}, k ≤ 64 → fX s I (f_dropN I s n k) ∧ zRow (f_dropN I s n k) s (ripN R n k) ∧ f_anyN I s n k = anyB (tin R n) k
  | 0, _ => ⟨fX_rfl, by rw [show ripN R n 0 = R by funext j; unfold ripN; rw [if_neg (by omega)]]; exact hR, rfl⟩
  | k + 1, hk => by
    obtain ⟨h1, h2, h3⟩ := drop_N hn hR (k := k) (by omega)
    refine ⟨fX_drop h1, ?_, ?_⟩
    · rw [show ripN R n (k + 1) = upd (ripN R n k) (n * 64 + k) (-1) by
        funext j
        by_cases e : j = n * 64 + k
        · rw [e, upd_at]; unfold ripN; rw [if_pos (by omega)]
        · rw [upd_ne e]; unfold ripN
          by_cases z : n * 64 ≤ j ∧ j < n * 64 + k
          · rw [if_pos z, if_pos (by omega)]
          · rw [if_neg z, if_neg (by omega)]]
      exact zRow_drop hn (by omega) h2
    · simp only [f_anyN, anyB]
      rw [h3, zRow_has h2 hn (by omega)]
      congr 1
      exact tin_congr (by unfold ripN; rw [if_neg (by omega)])
theorem drop_all {s n : Nat} {R : Nat → Int32} (hn : n < 6) (hR : zRow I s R) : fX s I (f_dropN I s n 64) ∧ zRow (f_dropN I s n 64) s (ripM R n) ∧ f_anyN I s n 64 = anyB (tin R n) 64 := drop_N hn hR (Nat.le_refl _)
theorem cntF_nI {f : Nat → Bool} : ∀ {n : Nat}, cntF f n = nI (cB f n)
  | 0 => rfl
  | n + 1 => by
    rw [cntF_succ, cntF_nI (n := n)]
    simp only [cB]
    cases f n
    · exact (nI_add _ 0)
    · exact (nI_add _ 1)
theorem ovPl_eq {b : zWo} {R : Nat → Int32} {s n : Nat} (hn : n < 6) (hW : zWi I b) (hR : zRow I s R) : cntF (fun p => tin (I (s + 1)) n p && ovB (I (s + 2)) (I 9) p) 64 = nI (ovPl b R n) := by
  rw [cntF_nI]
  unfold ovPl
  rw [cB_congr (fun k hk => by rw [zRow_tin hR hn hk, ovB_eq hW hR hk])]
theorem k_X6_layAnew (hl : l.stackTraces = false) (hd : 6 ≤ d) (hs : zSt g) {s n : Nat} {b : zWo} {R : Nat → Int32} (hst : zK g s 8 zLt_State) (hsN : 60 < s) (hn : n < 6) (hnN : n < bN b) (hW : zWi I b) (hR : zRow I s R) : zEi l Xi mX6_layAnew d [.ref 43, .ref s, .int (nI n)] I g (fun x J => x = (if decide (0 < bpc b n) then 1 else 0) ∧ fX s I J ∧ zRow J s (if 0 < bpc b n then layA b R n else R)) := by
  refine zC_of hl rfl rfl rfl (Nat.le_of_ble_eq_true rfl) (zav_r (zSt_ob hs 43 6 rfl).1 (zav_r hst.1.1 (zav_i zav_0))) ?_
  have hpc := (hW.2.1.2.2.2.2.2.2.1 n hn).1
  have hpc4 := (hW.2.1.2.2.2.2.2.2.1 n hn).2
  by_cases h0 : 0 < bpc b n
  · obtain ⟨hroot, hr64⟩ := root_eq hW hn h0
    obtain ⟨h1, h2, -⟩ := drop_all hn hR
    have hW1 := zWi_fX hsN hW h1
    have hroot1 := root_eq hW1 hn h0
    have h3 := zRow_put (w := 4) hn hr64 (by decide) h2
    have h4 : fX s I (f_put (f_dropN I s n 64) s n (bpn b n 0) 4) := fX_put h1
    rw [if_pos h0, decide_eq_true h0]
    refine zJ_aload_n dX6_layAnew_0 rfl ?_
    refine zP_getr lf_X6_28 (zSt_ob hs 43 6 rfl) rfl (zSt_rf hs 43 0 3 rfl) dX6_layAnew_1 ?_
    refine zP_getr lf_X6_67 (zSt_ob hs 3 0 rfl) rfl (zSt_rf hs 3 6 6 rfl) dX6_layAnew_4 ?_
    refine zJ_iload_n dX6_layAnew_7 rfl ?_
    refine zP_iald (zSt_ar hs 6 6 rfl) (by first | assumption | with_reducible exact vp_in_nI (by omega) (by omega) | (simp (disch := omega) only [nI_add, pk_mul, pk_sub, pk_div, pk_rem, nI_clamp]; with_reducible exact vp_in_nI (by omega) (by omega))) dX6_layAnew_8 ?_
    rw [nI_clamp (by omega), hpc]
    refine zJ_if_ne 14 dX6_layAnew_9 (by decide) (fun _ => ?_) (fun c9 => absurd c9 (nI_ne0 h0 (by omega)))
    refine zJ_aload_n dX6_layAnew_14 rfl ?_
    refine zJ_iload_n dX6_layAnew_15 rfl ?_
    refine zP_callVi [_] _ lv_X6_72 (k_X8_dropAll (d := d - 1) hl (by omega) hst hn) hst.1 rfl (by omega) (Nat.le_of_ble_eq_true rfl) rfl dX6_layAnew_16 ?_
    refine zJ_pop dX6_layAnew_19 rfl ?_
    refine zJ_aload_n dX6_layAnew_20 rfl ?_
    refine zJ_iload_n dX6_layAnew_21 rfl ?_
    refine zJ_aload_n dX6_layAnew_22 rfl ?_
    refine zP_getr lf_X6_28 (zSt_ob hs 43 6 rfl) rfl (zSt_rf hs 43 0 3 rfl) dX6_layAnew_23 ?_
    refine zJ_iload_n dX6_layAnew_26 rfl ?_
    refine zP_callVi [_] _ lv_X6_76 (k_X0_rootOf (d := d - 1) hl (by omega) (zSt_board hs) hn) (zSt_ob hs 3 0 rfl) rfl (by omega) (Nat.le_of_ble_eq_true rfl) rfl dX6_layAnew_27 ?_
    rw [hroot1.1]
    refine zJ_iconst (v := nI 4) dX6_layAnew_30 rfl ?_
    refine zP_callVv [_, _, _] _ lv_X6_80 (k_X8_put (d := d - 1) hl (by omega) hst hn hr64) hst.1 rfl (by omega) (Nat.le_of_ble_eq_true rfl) rfl dX6_layAnew_31 ?_
    refine zJ_aload_n dX6_layAnew_34 rfl ?_
    refine zJ_aload_n dX6_layAnew_35 rfl ?_
    refine zJ_iload_n dX6_layAnew_36 rfl ?_
    refine zP_ecallVv [_, _] _ lv_X6_84 (k_X6_grow (d := d - 1) hl (by omega) hs hst hsN hn hnN (zWi_fX hsN hW h4) h3) (zSt_ob hs 43 6 rfl) rfl (by omega) (Nat.le_of_ble_eq_true rfl) rfl dX6_layAnew_37 (fun J hJ => ?_)
    refine zJ_iconst (v := nI 1) dX6_layAnew_40 rfl ?_
    refine zJ_zret rfl (by decide) dX6_layAnew_41 ?_
    exact ⟨_, J, rfl, rfl, rfl, fX_trans h4 hJ.1, hJ.2⟩
  · rw [if_neg h0, decide_eq_false h0]
    refine zJ_aload_n dX6_layAnew_0 rfl ?_
    refine zP_getr lf_X6_28 (zSt_ob hs 43 6 rfl) rfl (zSt_rf hs 43 0 3 rfl) dX6_layAnew_1 ?_
    refine zP_getr lf_X6_67 (zSt_ob hs 3 0 rfl) rfl (zSt_rf hs 3 6 6 rfl) dX6_layAnew_4 ?_
    refine zJ_iload_n dX6_layAnew_7 rfl ?_
    refine zP_iald (zSt_ar hs 6 6 rfl) (by first | assumption | with_reducible exact vp_in_nI (by omega) (by omega) | (simp (disch := omega) only [nI_add, pk_mul, pk_sub, pk_div, pk_rem, nI_clamp]; with_reducible exact vp_in_nI (by omega) (by omega))) dX6_layAnew_8 ?_
    rw [nI_clamp (by omega), hpc]
    refine zJ_if_ne 14 dX6_layAnew_9 (by decide) (fun c9 => absurd (by rw [show bpc b n = 0 by omega]; rfl) c9) (fun _ => ?_)
    refine zJ_iconst (v := nI 0) dX6_layAnew_12 rfl ?_
    refine zJ_zret rfl (by decide) dX6_layAnew_13 ?_
    exact ⟨_, I, rfl, rfl, rfl, fX_rfl, hR⟩
theorem rnd_step {b : zWo} {R : Nat → Int32} {n : Nat} : rndN b R (n + 1) = if styM b (rndN b R n) n then rndN b R n else growM b n 4 (teaM b (rndN b R n) n) := rfl
def hisN (b : zWo) (R : Nat → Int32) (m : Nat) : Nat → Int32 := fun k => if 384 ≤ k ∧ k < 384 + m then (let h := R k + nI (ovN b R (k - 384)) * bgn b; if h < nI 9999 then h else nI 9999) else R k
set_option maxHeartbeats 1000000 in
theorem k_X6_goRound (hl : l.stackTraces = false) (hd : 6 ≤ d) (hs : zSt g) {s : Nat} {b : zWo} {R : Nat → Int32} (hst : zK g s 8 zLt_State) (hsN : 60 < s) (hW : zWi I b) (hR : zRow I s R) (hok : okR b R) : zEv l Xi mX6_goRound d [.ref 43, .ref s] I g (fun J => fX s I J ∧ zRow J s (rndM b R)) := by
  refine zC_of hl rfl rfl rfl (Nat.le_of_ble_eq_true rfl) (zav_r (zSt_ob hs 43 6 rfl).1 (zav_r hst.1.1 zav_0)) ?_
  have hN6 := hW.1.2.2.2.2.1
  obtain ⟨A, hA⟩ : ∃ A, rndN b R (bN b) = A := ⟨_, rfl⟩
  have hist : ∀ m p, p + m = 64 → ∀ (J : zI), (fX s I J ∧ zRow J s (hisN b A p)) → zJ l Xi mX6_goRound d 0 0 79 [some (.ref 43), some (.ref s), some (.int (nI p)), none] [] (J, g) (fun r' h' => r' = .inl none ∧ ∃ I', h' = (I', g) ∧ fX s I I' ∧ zRow I' s (rndM b R)) := by
    intro m
    induction m with
    | zero =>
      intro p hp J hI
      obtain rfl : p = 64 := by omega
      refine zJ_iload_n dX6_goRound_79 rfl ?_
      refine zJ_bipush (v := nI 64) dX6_goRound_80 rfl ?_
      refine zJ_icmp_ge 136 dX6_goRound_82 (by decide) (fun _ => ?_) (fun c82 => absurd (nI_le (by omega) (by omega)) c82)
      refine zJ_aload_n dX6_goRound_136 rfl ?_
      refine zJ_dup dX6_goRound_137 rfl ?_
      refine zP_geti lf_X6_40 hst.1 rfl dX6_goRound_138 ?_
      refine zJ_iconst (v := nI 1) dX6_goRound_141 rfl ?_
      refine zJ_iadd dX6_goRound_142 ?_
      refine zP_puti lf_X6_40 hst.1 rfl dX6_goRound_143 ?_
      refine zJ_vret rfl dX6_goRound_146 ?_
      refine ⟨rfl, _, rfl, fX_zup hI.1 (by omega), ?_⟩
      have h1 := hI.2
      have h2 : hisN b A 64 = hisM b A := rfl
      unfold rndM
      rw [hA]
      rw [h2] at h1
      have h3 := zRow_rd (x := hisM b A 518 + 1) h1
      have h4 : J s 5 + nI 1 = hisM b A 518 + 1 := by rw [h1.2.2.2.2.2]; rfl
      show zRow (zup J s 5 (J s 5 + nI 1)) s (upd (hisM b A) 518 (hisM b A 518 + 1))
      rw [h4]
      exact h3
    | succ m ih =>
      intro p hp J hI
      have hWJ := zWi_fX hsN hW hI.1
      have hov : ovN b (hisN b A p) p = ovN b A p := ovN_congr (by omega) (fun k hk => by unfold hisN; rw [if_neg (by omega)])
      have hhp : hisN b A p (384 + p) = A (384 + p) := by unfold hisN; rw [if_neg (by omega)]
      have hstep : hisN b A (p + 1) = upd (hisN b A p) (384 + p) (if A (384 + p) + nI (ovN b A p) * bgn b < nI 9999 then A (384 + p) + nI (ovN b A p) * bgn b else nI 9999) := by { funext k; by_cases e : k = 384 + p; { rw [e, upd_at]; unfold hisN; rw [if_pos (by omega)]; simp only [Nat.add_sub_cancel_left] }; { rw [upd_ne e]; unfold hisN; by_cases z : 384 ≤ k ∧ k < 384 + p; { rw [if_pos z, if_pos (by omega)] }; { rw [if_neg z, if_neg (by omega)] } } }
      refine zJ_iload_n dX6_goRound_79 rfl ?_
      refine zJ_bipush (v := nI 64) dX6_goRound_80 rfl ?_
      refine zJ_icmp_ge 136 dX6_goRound_82 (by decide) (fun c82 => absurd c82 (nI_ge (by omega) (by omega))) (fun _ => ?_)
      refine zJ_aload_n dX6_goRound_85 rfl ?_
      refine zP_getr lf_X6_87 hst.1 rfl (zK_rf hst 2 2 3 64 rfl) dX6_goRound_86 ?_
      refine zJ_iload_n dX6_goRound_89 rfl ?_
      refine zP_iald (zK_ar hst 2 2 3 64 rfl) (by first | assumption | with_reducible exact vp_in_nI (by omega) (by omega) | (simp (disch := omega) only [nI_add, pk_mul, pk_sub, pk_div, pk_rem, nI_clamp]; with_reducible exact vp_in_nI (by omega) (by omega))) dX6_goRound_90 ?_
      refine zJ_aload_n dX6_goRound_91 rfl ?_
      refine zP_getr lf_X6_36 (zSt_ob hs 43 6 rfl) rfl (zSt_rf hs 43 2 41 rfl) dX6_goRound_92 ?_
      refine zJ_aload_n dX6_goRound_95 rfl ?_
      refine zJ_iload_n dX6_goRound_96 rfl ?_
      refine zP_callVi [_, _] _ lv_X6_114 (k_X9_overAt (d := d - 1) hl (by omega) hs hst (by omega)) (zSt_ob hs 41 9 rfl) rfl (by omega) (Nat.le_of_ble_eq_true rfl) rfl dX6_goRound_97 ?_
      rw [ovr_eq hWJ hI.2 (by omega), hov]
      refine zJ_aload_n dX6_goRound_100 rfl ?_
      refine zP_getr lf_X6_28 (zSt_ob hs 43 6 rfl) rfl (zSt_rf hs 43 0 3 rfl) dX6_goRound_101 ?_
      refine zP_geti lf_X6_117 (zSt_ob hs 3 0 rfl) rfl dX6_goRound_104 ?_
      rw [hWJ.2.2.1]
      refine zJ_imul dX6_goRound_107 ?_
      refine zJ_iadd dX6_goRound_108 ?_
      rw [nI_clamp (by omega), hI.2.2.2.1 p (by omega), hhp]
      refine zJ_istore_m 3 dX6_goRound_109 rfl (Nat.le_of_ble_eq_true rfl) (by decide) ?_
      refine zJ_aload_n dX6_goRound_110 rfl ?_
      refine zP_getr lf_X6_87 hst.1 rfl (zK_rf hst 2 2 3 64 rfl) dX6_goRound_111 ?_
      refine zJ_iload_n dX6_goRound_114 rfl ?_
      refine zJ_iload_n dX6_goRound_115 rfl ?_
      refine zJ_sipush (v := nI 9999) dX6_goRound_116 rfl ?_
      refine zJ_icmp_ge 126 dX6_goRound_119 (by decide) (fun c119 => ?_) (fun c119 => ?_)
      · skip
        refine zJ_sipush (v := nI 9999) dX6_goRound_126 rfl ?_
        refine zP_iast (zK_ar hst 2 2 3 64 rfl) (by first | assumption | with_reducible exact vp_in_nI (by omega) (by omega) | (simp (disch := omega) only [nI_add, pk_mul, pk_sub, pk_div, pk_rem, nI_clamp]; with_reducible exact vp_in_nI (by omega) (by omega))) dX6_goRound_129 ?_
        refine zJ_iinc1 dX6_goRound_130 rfl (by decide) ?_
        refine zJ_goto 79 dX6_goRound_133 (by decide) ?_
        rw [nI_clamp (by omega)]
        refine zJ_back (zle_r (zle_r (zle_r (zle_n zle_0)))) rfl (ih (p + 1) (by omega) (zup J (s + 3) p _) ⟨fX_zup hI.1 (by omega), ?_⟩)
        rw [hstep, if_neg (fun z => absurd c119 (Int32.not_le.mpr z))]
        exact zRow_h (by omega) hI.2
      · skip
        refine zJ_iload_n dX6_goRound_122 rfl ?_
        refine zJ_goto 129 dX6_goRound_123 (by decide) ?_
        refine zP_iast (zK_ar hst 2 2 3 64 rfl) (by first | assumption | with_reducible exact vp_in_nI (by omega) (by omega) | (simp (disch := omega) only [nI_add, pk_mul, pk_sub, pk_div, pk_rem, nI_clamp]; with_reducible exact vp_in_nI (by omega) (by omega))) dX6_goRound_129 ?_
        refine zJ_iinc1 dX6_goRound_130 rfl (by decide) ?_
        refine zJ_goto 79 dX6_goRound_133 (by decide) ?_
        rw [nI_clamp (by omega)]
        refine zJ_back (zle_r (zle_r (zle_r (zle_n zle_0)))) rfl (ih (p + 1) (by omega) (zup J (s + 3) p _) ⟨fX_zup hI.1 (by omega), ?_⟩)
        rw [hstep, if_pos (Int32.not_le.mp c119)]
        exact zRow_h (by omega) hI.2
  have nets : ∀ m n, n + m = bN b → ∀ (J : zI), (fX s I J ∧ zRow J s (rndN b R n)) → zJ l Xi mX6_goRound d 0 0 2 [some (.ref 43), some (.ref s), some (.int (nI n)), none] [] (J, g) (fun r' h' => r' = .inl none ∧ ∃ I', h' = (I', g) ∧ fX s I I' ∧ zRow I' s (rndM b R)) := by
    intro m
    induction m with
    | zero =>
      intro n hp J hI
      obtain rfl : n = bN b := by omega
      refine zJ_iload_n dX6_goRound_2 rfl ?_
      refine zJ_aload_n dX6_goRound_3 rfl ?_
      refine zP_getr lf_X6_28 (zSt_ob hs 43 6 rfl) rfl (zSt_rf hs 43 0 3 rfl) dX6_goRound_4 ?_
      refine zP_geti lf_X6_99 (zSt_ob hs 3 0 rfl) rfl dX6_goRound_7 ?_
      refine zJ_icmp_ge 77 dX6_goRound_10 (by decide) (fun _ => ?_) (fun c10 => absurd (by rw [(zWi_fX hsN hW hI.1).2.1.2.2.1]; exact nI_le (by omega) (by omega)) c10)
      refine zJ_iconst (v := nI 0) dX6_goRound_77 rfl ?_
      refine zJ_istore_m 2 dX6_goRound_78 rfl (Nat.le_of_ble_eq_true rfl) (by decide) ?_
      refine hist 64 0 (by omega) J ⟨hI.1, ?_⟩
      rw [show hisN b A 0 = A by funext k; unfold hisN; rw [if_neg (by omega)], ← hA]
      exact hI.2
    | succ m ih =>
      intro n hp J hI
      refine zJ_iload_n dX6_goRound_2 rfl ?_
      refine zJ_aload_n dX6_goRound_3 rfl ?_
      refine zP_getr lf_X6_28 (zSt_ob hs 43 6 rfl) rfl (zSt_rf hs 43 0 3 rfl) dX6_goRound_4 ?_
      refine zP_geti lf_X6_99 (zSt_ob hs 3 0 rfl) rfl dX6_goRound_7 ?_
      refine zJ_icmp_ge 77 dX6_goRound_10 (by decide) (fun c10 => absurd c10 (by rw [(zWi_fX hsN hW hI.1).2.1.2.2.1]; exact nI_ge (by omega) (by omega))) (fun _ => ?_)
      have hWJ := zWi_fX hsN hW hI.1
      have hn : n < 6 := by omega
      obtain ⟨Q, hQ⟩ : ∃ Q, rndN b R n = Q := ⟨_, rfl⟩
      have hokQ : okR b Q := by rw [← hQ]; exact okR_rndN hW.1 hok (by omega)
      have hRQ := hI.2
      rw [hQ] at hRQ
      have hpc := (hWJ.2.1.2.2.2.2.2.2.1 n hn).1
      have hpc4 := (hWJ.2.1.2.2.2.2.2.2.1 n hn).2
      have hstp : rndN b R (n + 1) = if styM b Q n then Q else growM b n 4 (teaM b Q n) := by rw [rnd_step, hQ]
      have h54 : ∀ v : Bool, styM b Q n = v → zJ l Xi mX6_goRound d 0 0 54 [some (.ref 43), some (.ref s), some (.int (nI n)), none] [.int (if v then 1 else 0)] (J, g) (fun r' h' => r' = .inl none ∧ ∃ I', h' = (I', g) ∧ fX s I I' ∧ zRow I' s (rndM b R)) := by
        intro v hv
        rw [hv] at hstp
        cases v with
        | true =>
          refine zJ_istore_m 3 dX6_goRound_54 rfl (Nat.le_of_ble_eq_true rfl) (by decide) ?_
          refine zJ_iload_n dX6_goRound_55 rfl ?_
          refine zJ_if_ne 71 dX6_goRound_56 (by decide) (fun _ => ?_) (fun c56 => absurd c56 (by decide))
          refine zJ_iinc1 dX6_goRound_71 rfl (by decide) ?_
          refine zJ_goto 2 dX6_goRound_74 (by decide) ?_
          exact zJ_back (zle_r (zle_r (zle_r (zle_n zle_0)))) rfl (ih (n + 1) (by omega) J ⟨hI.1, by rw [hstp]; exact hRQ⟩)
        | false =>
          have h0 : 0 < bpc b n := Nat.pos_of_ne_zero (fun z => by simp [styM, z] at hv)
          refine zJ_istore_m 3 dX6_goRound_54 rfl (Nat.le_of_ble_eq_true rfl) (by decide) ?_
          refine zJ_iload_n dX6_goRound_55 rfl ?_
          refine zJ_if_ne 71 dX6_goRound_56 (by decide) (fun c56 => absurd rfl c56) (fun _ => ?_)
          refine zJ_aload_n dX6_goRound_59 rfl ?_
          refine zJ_aload_n dX6_goRound_60 rfl ?_
          refine zJ_iload_n dX6_goRound_61 rfl ?_
          refine zP_ecallVv [_, _] _ lv_X6_111 (k_X6_tearShared (d := d - 1) hl (by omega) hs hst hsN hn h0 hWJ hRQ (okR_wok hokQ)) (zSt_ob hs 43 6 rfl) rfl (by omega) (Nat.le_of_ble_eq_true rfl) rfl dX6_goRound_62 (fun J1 h1 => ?_)
          refine zJ_aload_n dX6_goRound_65 rfl ?_
          refine zJ_aload_n dX6_goRound_66 rfl ?_
          refine zJ_iload_n dX6_goRound_67 rfl ?_
          refine zP_ecallVv [_, _] _ lv_X6_84 (k_X6_grow (d := d - 1) hl (by omega) hs hst hsN hn (by omega) (zWi_fX hsN hWJ h1.1) h1.2) (zSt_ob hs 43 6 rfl) rfl (by omega) (Nat.le_of_ble_eq_true rfl) rfl dX6_goRound_68 (fun J2 h2 => ?_)
          refine zJ_iinc1 dX6_goRound_71 rfl (by decide) ?_
          refine zJ_goto 2 dX6_goRound_74 (by decide) ?_
          exact zJ_back (zle_r (zle_r (zle_r (zle_n zle_0)))) rfl (ih (n + 1) (by omega) J2 ⟨fX_trans hI.1 (fX_trans h1.1 h2.1), by rw [hstp]; exact h2.2⟩)
      refine zJ_aload_n dX6_goRound_13 rfl ?_
      refine zP_getr lf_X6_28 (zSt_ob hs 43 6 rfl) rfl (zSt_rf hs 43 0 3 rfl) dX6_goRound_14 ?_
      refine zP_getr lf_X6_67 (zSt_ob hs 3 0 rfl) rfl (zSt_rf hs 3 6 6 rfl) dX6_goRound_17 ?_
      refine zJ_iload_n dX6_goRound_20 rfl ?_
      refine zP_iald (zSt_ar hs 6 6 rfl) (by first | assumption | with_reducible exact vp_in_nI (by omega) (by omega) | (simp (disch := omega) only [nI_add, pk_mul, pk_sub, pk_div, pk_rem, nI_clamp]; with_reducible exact vp_in_nI (by omega) (by omega))) dX6_goRound_21 ?_
      rw [nI_clamp (by omega), hpc]
      refine zJ_if_eq 49 dX6_goRound_22 (by decide) (fun c22 => ?_) (fun c22 => ?_)
      · skip
        refine zJ_iconst (v := nI 1) dX6_goRound_49 rfl ?_
        refine zJ_goto 54 dX6_goRound_50 (by decide) ?_
        have e : bpc b n = 0 := by
          rcases Nat.eq_zero_or_pos (bpc b n) with z | z
          · exact z
          · exact absurd c22 (nI_ne0 z (by omega))
        exact h54 true (by simp [styM, e])
      · skip
        refine zJ_aload_n dX6_goRound_25 rfl ?_
        refine zP_getr lf_X6_36 (zSt_ob hs 43 6 rfl) rfl (zSt_rf hs 43 2 41 rfl) dX6_goRound_26 ?_
        refine zJ_aload_n dX6_goRound_29 rfl ?_
        refine zJ_iload_n dX6_goRound_30 rfl ?_
        refine zP_callVi [_, _] _ lv_X6_102 (k_X9_isJoined (d := d - 1) hl (by omega) hs hWJ.2.1 hst hn) (zSt_ob hs 41 9 rfl) rfl (by omega) (Nat.le_of_ble_eq_true rfl) rfl dX6_goRound_31 ?_
        rw [jnd_R hWJ hRQ hn]
        refine zJ_if_eq 53 dX6_goRound_34 (by decide) (fun c34 => ?_) (fun c34 => ?_)
        · replace c34 := zb0.mp c34
          refine zJ_iconst (v := nI 0) dX6_goRound_53 rfl ?_
          have e : ¬ bpc b n = 0 := fun z => c22 (by rw [z]; rfl)
          exact h54 false (by simp [styM, e, c34])
        · replace c34 := zb1.mp c34
          refine zJ_aload_n dX6_goRound_37 rfl ?_
          refine zP_getr lf_X6_36 (zSt_ob hs 43 6 rfl) rfl (zSt_rf hs 43 2 41 rfl) dX6_goRound_38 ?_
          refine zJ_aload_n dX6_goRound_41 rfl ?_
          refine zJ_iload_n dX6_goRound_42 rfl ?_
          refine zP_callVi [_, _] _ lv_X6_107 (k_X9_overPlacesOf (d := d - 1) hl (by omega) hs hst hn) (zSt_ob hs 41 9 rfl) rfl (by omega) (Nat.le_of_ble_eq_true rfl) rfl dX6_goRound_43 ?_
          rw [ovPl_eq hn hWJ hRQ]
          refine zJ_if_ne 53 dX6_goRound_46 (by decide) (fun c46 => ?_) (fun c46 => ?_)
          · skip
            refine zJ_iconst (v := nI 0) dX6_goRound_53 rfl ?_
            have e : ¬ bpc b n = 0 := fun z => c22 (by rw [z]; rfl)
            have e2 : ¬ ovPl b Q n = 0 := fun z => c46 (by rw [z]; rfl)
            exact h54 false (by simp [styM, e, c34, e2])
          · skip
            refine zJ_iconst (v := nI 1) dX6_goRound_49 rfl ?_
            refine zJ_goto 54 dX6_goRound_50 (by decide) ?_
            have e2 : ovPl b Q n = 0 := by
              rcases Nat.eq_zero_or_pos (ovPl b Q n) with z | z
              · exact z
              · exact absurd c46 (nI_ne0 z (by have : ovPl b Q n ≤ 64 := cB_le; omega))
            exact h54 true (by simp [styM, c34, e2])
  refine zJ_iconst (v := nI 0) dX6_goRound_0 rfl ?_
  refine zJ_istore_m 2 dX6_goRound_1 rfl (Nat.le_of_ble_eq_true rfl) (by decide) ?_
  exact nets (bN b) 0 (by omega) I ⟨fX_rfl, hR⟩
end ZRound
