/-! ===== NegotiatedWires: crowd, tight, fits, look, would ===== -/
section ZX12c
variable {l : Launch} {Xi : zXi} {d : Nat} {I : zI} {g : zG}
def nmP (p : Nat) : Nat := 10 * (p / 8) + p % 8
theorem k_nameOf (hl : l.stackTraces = false) (hd : 1 ≤ d) {p : Nat} (hp : p < 64) : zD l Xi mX12_nameOfPlace d [.int (nI p)] I g (some (.int (nI (nmP p)))) I := by
  refine zC_of hl rfl rfl rfl (Nat.le_of_ble_eq_true rfl) (zav_i zav_0) ?_
  refine zJ_bipush (v := nI 10) dX12_nameOfPlace_0 rfl ?_
  refine zJ_iload_n dX12_nameOfPlace_2 rfl ?_
  refine zJ_bipush (v := nI 8) dX12_nameOfPlace_3 rfl ?_
  refine zJ_idiv dX12_nameOfPlace_5 (by decide) ?_
  rw [pk_div (by omega) (by omega) (by omega)]
  refine zJ_imul dX12_nameOfPlace_6 ?_
  rw [pk_mul]
  refine zJ_iload_n dX12_nameOfPlace_7 rfl ?_
  refine zJ_bipush (v := nI 8) dX12_nameOfPlace_8 rfl ?_
  refine zJ_irem dX12_nameOfPlace_10 (by decide) ?_
  rw [pk_rem (by omega) (by omega) (by omega)]
  refine zJ_iadd dX12_nameOfPlace_11 ?_
  rw [nI_add]
  refine zJ_iret rfl dX12_nameOfPlace_12 ?_
  exact ⟨rfl, rfl⟩
def crwN (R : rwT) : Nat → Nat
  | 0 => 0
  | k + 1 => if usn R (crwN R k) < usn R (k + 1) then k + 1 else crwN R k
theorem crw_lt {R : rwT} : ∀ {k : Nat}, crwN R k ≤ k
  | 0 => Nat.le_refl _
  | k + 1 => by
    have := crw_lt (R := R) (k := k)
    simp only [crwN]
    split <;> omega
def crwV (R : rwT) (k : Nat) : Int32 := if k = 0 then nI (nmP (crwN R 63)) else nI (usn R (crwN R 63))
theorem k_crowd (hl : l.stackTraces = false) (hd : 12 ≤ d) (hs : zSt g) {S : sT} (hI : cI I g S) (hok : okS S) {k : Nat} (hk : k ≤ 1) : zEi l Xi mX12_crowd d [.ref 0, .int (nI k)] I g (fun v J => v = crwV S.2.2.1 k ∧ cI J g S ∧ fC I J) := by
  refine zC_of hl rfl rfl rfl (Nat.le_of_ble_eq_true rfl) (zav_r (zSt_ob hs 0 12 rfl).1 (zav_i zav_0)) ?_
  obtain ⟨hW, hR, hokR, hwk, hwI, hbk⟩ := cI_ctx hI hok
  have hu : ∀ p, p < 64 → I (62 + 2) p = nI (usn S.2.2.1 p) := hR.2.1
  have loop : ∀ m i, i + m = 63 → zJ l Xi mX12_crowd d 0 0 10 [some (.ref 0), some (.int (nI k)), some (.int (nI (crwN S.2.2.1 i))), some (.int (nI (i + 1)))] [] (I, g) (fun r' h' => ∃ x I', r' = .inl (some (.int x)) ∧ h' = (I', g) ∧ x = crwV S.2.2.1 k ∧ cI I' g S ∧ fC I I') := by
    intro m
    induction m with
    | zero =>
      intro i hi
      obtain rfl : i = 63 := by omega
      have hc := crw_lt (R := S.2.2.1) (k := 63)
      have hkk : k = 0 ∨ k = 1 := by omega
      rcases hkk with rfl | rfl
      · skip
        refine zJ_iload_n dX12_crowd_10 rfl ?_
        refine zJ_bipush (v := nI 64) dX12_crowd_11 rfl ?_
        refine zJ_icmp_ge 45 dX12_crowd_13 (by decide) (fun _ => ?_) (fun c13 => absurd (nI_le (by omega) (by omega)) c13)
        refine zJ_iload_n dX12_crowd_45 rfl ?_
        refine zJ_if_ne 56 dX12_crowd_46 (by decide) (fun c46 => absurd rfl c46) (fun _ => ?_)
        refine zJ_iload_n dX12_crowd_49 rfl ?_
        refine zP_callSi [_] _ ls_X12_338 (k_nameOf (d := d - 1) hl (by omega) (by omega)) rfl (by omega) (Nat.le_of_ble_eq_true rfl) rfl dX12_crowd_50 ?_
        refine zJ_goto 65 dX12_crowd_53 (by decide) ?_
        refine zJ_iret rfl dX12_crowd_65 ?_
        exact ⟨_, I, rfl, rfl, rfl, cQ hI fQ_rfl⟩
      · skip
        refine zJ_iload_n dX12_crowd_10 rfl ?_
        refine zJ_bipush (v := nI 64) dX12_crowd_11 rfl ?_
        refine zJ_icmp_ge 45 dX12_crowd_13 (by decide) (fun _ => ?_) (fun c13 => absurd (nI_le (by omega) (by omega)) c13)
        refine zJ_iload_n dX12_crowd_45 rfl ?_
        refine zJ_if_ne 56 dX12_crowd_46 (by decide) (fun _ => ?_) (fun c46 => absurd c46 (by decide))
        refine zJ_aload_n dX12_crowd_56 rfl ?_
        refine zP_getr lf_X12_97 (zSt_ob hs 0 12 rfl) rfl (zSt_rf hs 0 13 62 rfl) dX12_crowd_57 ?_
        refine zP_getr lf_X12_254 (zSt_ob hs 62 8 rfl) rfl (zSt_rf hs 62 1 64 rfl) dX12_crowd_60 ?_
        refine zJ_iload_n dX12_crowd_63 rfl ?_
        refine zP_iald (zSt_ar hs 64 64 rfl) (by first | assumption | with_reducible exact vp_in_nI (by omega) (by omega) | (simp (disch := omega) only [nI_add, pk_mul, pk_sub, pk_div, pk_rem, nI_clamp]; with_reducible exact vp_in_nI (by omega) (by omega))) dX12_crowd_64 ?_
        refine zJ_iret rfl dX12_crowd_65 ?_
        exact ⟨_, I, rfl, rfl, by rw [nI_clamp (by omega)]; exact hu _ (by omega), cQ hI fQ_rfl⟩
    | succ m ih =>
      intro i hi
      have hc := crw_lt (R := S.2.2.1) (k := i)
      have IH := ih (i + 1) (by omega)
      simp only [crwN] at IH
      refine zJ_iload_n dX12_crowd_10 rfl ?_
      refine zJ_bipush (v := nI 64) dX12_crowd_11 rfl ?_
      refine zJ_icmp_ge 45 dX12_crowd_13 (by decide) (fun c13 => absurd c13 (nI_ge (by omega) (by omega))) (fun _ => ?_)
      refine zJ_aload_n dX12_crowd_16 rfl ?_
      refine zP_getr lf_X12_97 (zSt_ob hs 0 12 rfl) rfl (zSt_rf hs 0 13 62 rfl) dX12_crowd_17 ?_
      refine zP_getr lf_X12_254 (zSt_ob hs 62 8 rfl) rfl (zSt_rf hs 62 1 64 rfl) dX12_crowd_20 ?_
      refine zJ_iload_n dX12_crowd_23 rfl ?_
      refine zP_iald (zSt_ar hs 64 64 rfl) (by first | assumption | with_reducible exact vp_in_nI (by omega) (by omega) | (simp (disch := omega) only [nI_add, pk_mul, pk_sub, pk_div, pk_rem, nI_clamp]; with_reducible exact vp_in_nI (by omega) (by omega))) dX12_crowd_24 ?_
      rw [nI_clamp (by omega), show (64 : Nat) = 62 + 2 from rfl, hu _ (by omega)]
      refine zJ_aload_n dX12_crowd_25 rfl ?_
      refine zP_getr lf_X12_97 (zSt_ob hs 0 12 rfl) rfl (zSt_rf hs 0 13 62 rfl) dX12_crowd_26 ?_
      refine zP_getr lf_X12_254 (zSt_ob hs 62 8 rfl) rfl (zSt_rf hs 62 1 64 rfl) dX12_crowd_29 ?_
      refine zJ_iload_n dX12_crowd_32 rfl ?_
      refine zP_iald (zSt_ar hs 64 64 rfl) (by first | assumption | with_reducible exact vp_in_nI (by omega) (by omega) | (simp (disch := omega) only [nI_add, pk_mul, pk_sub, pk_div, pk_rem, nI_clamp]; with_reducible exact vp_in_nI (by omega) (by omega))) dX12_crowd_33 ?_
      rw [nI_clamp (by omega), show (64 : Nat) = 62 + 2 from rfl, hu _ (by omega)]
      refine zJ_icmp_le 39 dX12_crowd_34 (by decide) (fun c34 => ?_) (fun c34 => ?_)
      · skip
        refine zJ_iinc1 dX12_crowd_39 rfl (by decide) ?_
        refine zJ_goto 10 dX12_crowd_42 (by decide) ?_
        have e : ¬ usn S.2.2.1 (crwN S.2.2.1 i) < usn S.2.2.1 (i + 1) := fun z => absurd ((nI_leI (Nat.lt_of_le_of_lt usn_le (by decide)) (Nat.lt_of_le_of_lt usn_le (by decide))).mp c34) (by omega)
        rw [if_neg e] at IH
        exact IH
      · skip
        refine zJ_iload_n dX12_crowd_37 rfl ?_
        refine zJ_istore_m 2 dX12_crowd_38 rfl (Nat.le_of_ble_eq_true rfl) (by decide) ?_
        refine zJ_iinc1 dX12_crowd_39 rfl (by decide) ?_
        refine zJ_goto 10 dX12_crowd_42 (by decide) ?_
        have e : usn S.2.2.1 (crwN S.2.2.1 i) < usn S.2.2.1 (i + 1) := Nat.lt_of_not_le (fun z => c34 ((nI_leI (Nat.lt_of_le_of_lt usn_le (by decide)) (Nat.lt_of_le_of_lt usn_le (by decide))).mpr z))
        rw [if_pos e] at IH
        exact IH
  refine zJ_aload_n dX12_crowd_0 rfl ?_
  refine zJ_iload_n dX12_crowd_1 rfl ?_
  refine zJ_iconst (v := nI 1) dX12_crowd_2 rfl ?_
  refine zP_callVv [_, _] _ lv_X12_176 (k_needWhat (d := d - 1) hl (by omega) hs (k_what hk (by omega))) (zSt_ob hs 0 12 rfl) rfl (by omega) (Nat.le_of_ble_eq_true rfl) rfl dX12_crowd_3 ?_
  refine zJ_iconst (v := nI 0) dX12_crowd_6 rfl ?_
  refine zJ_istore_m 2 dX12_crowd_7 rfl (Nat.le_of_ble_eq_true rfl) (by decide) ?_
  refine zJ_iconst (v := nI 1) dX12_crowd_8 rfl ?_
  refine zJ_istore_m 3 dX12_crowd_9 rfl (Nat.le_of_ble_eq_true rfl) (by decide) ?_
  exact loop 63 0 (by omega)
def tgB (b : zWo) (R : rwT) (n : Nat) : Bool := decide (0 < bpc b n) && jnd R (bpc b) (bpn b) n
def tgN (b : zWo) (R : rwT) : Nat → Option (Nat × Int32)
  | 0 => none
  | n + 1 => if tgB b R n then (match tgN b R n with
    | none => some (n, blm b n - sDel b R n)
    | some q => if blm b n - sDel b R n < q.2 then some (n, blm b n - sDel b R n) else some q) else tgN b R n
theorem tgN_lt {b : zWo} {R : rwT} : ∀ {k : Nat} {q : Nat × Int32}, tgN b R k = some q → q.1 < k
  | 0, q, h => by cases h
  | k + 1, q, h => by
    simp only [tgN] at h
    split at h
    · cases e : tgN b R k with
      | none => rw [e] at h; cases h; simp
      | some q' =>
        have := tgN_lt e
        rw [e] at h
        simp only at h
        split at h
        · cases h; simp
        · cases h; omega
    · have := tgN_lt h; omega
def tg1 : Option (Nat × Int32) → Int32
  | none => -1000
  | some q => nI q.1
def tg2 : Option (Nat × Int32) → Int32
  | none => -1000
  | some q => q.2
def tgV (b : zWo) (R : rwT) (k : Nat) : Int32 := if k = 0 then tg1 (tgN b R (bN b)) else tg2 (tgN b R (bN b))
theorem k_tight (hl : l.stackTraces = false) (hd : 12 ≤ d) (hs : zSt g) {S : sT} (hI : cI I g S) (hok : okS S) {k : Nat} (hk : k ≤ 1) : zEi l Xi mX12_tight d [.ref 0, .int (nI k)] I g (fun v J => v = tgV S.2.1 S.2.2.1 k ∧ cI J g S ∧ fC I J) := by
  refine zC_of hl rfl rfl rfl (Nat.le_of_ble_eq_true rfl) (zav_r (zSt_ob hs 0 12 rfl).1 (zav_i zav_0)) ?_
  obtain ⟨hW, hR, hokR, hwk, hwI, hbk⟩ := cI_ctx hI hok
  have hN6 := hW.1.2.2.2.2.1
  have hbd := hW.2.1
  have loop : ∀ m n, n + m = bN S.2.1 → zJ l Xi mX12_tight d 0 0 17 [some (.ref 0), some (.int (nI k)), some (.int (tg1 (tgN S.2.1 S.2.2.1 n))), some (.int (tg2 (tgN S.2.1 S.2.2.1 n))), some (.int (nI n)), none] [] (I, g) (fun r' h' => ∃ x I', r' = .inl (some (.int x)) ∧ h' = (I', g) ∧ x = tgV S.2.1 S.2.2.1 k ∧ cI I' g S ∧ fC I I') := by
    intro m
    induction m with
    | zero =>
      intro n hn
      obtain rfl : n = bN S.2.1 := by omega
      have hkk : k = 0 ∨ k = 1 := by omega
      rcases hkk with rfl | rfl
      · skip
        refine zJ_iload dX12_tight_17 rfl ?_
        refine zJ_aload_n dX12_tight_19 rfl ?_
        refine zP_getr lf_X12_19 (zSt_ob hs 0 12 rfl) rfl (zSt_rf hs 0 1 3 rfl) dX12_tight_20 ?_
        refine zP_geti lf_X12_136 (zSt_ob hs 3 0 rfl) rfl dX12_tight_23 ?_
        rw [hbd.2.2.1]
        refine zJ_icmp_ge 109 dX12_tight_26 (by decide) (fun _ => ?_) (fun c26 => absurd (nI_le (by omega) (by omega)) c26)
        refine zJ_iload_n dX12_tight_109 rfl ?_
        refine zJ_if_ne 117 dX12_tight_110 (by decide) (fun c110 => absurd rfl c110) (fun _ => ?_)
        refine zJ_iload_n dX12_tight_113 rfl ?_
        refine zJ_goto 118 dX12_tight_114 (by decide) ?_
        refine zJ_iret rfl dX12_tight_118 ?_
        exact ⟨_, I, rfl, rfl, rfl, cQ hI fQ_rfl⟩
      · skip
        refine zJ_iload dX12_tight_17 rfl ?_
        refine zJ_aload_n dX12_tight_19 rfl ?_
        refine zP_getr lf_X12_19 (zSt_ob hs 0 12 rfl) rfl (zSt_rf hs 0 1 3 rfl) dX12_tight_20 ?_
        refine zP_geti lf_X12_136 (zSt_ob hs 3 0 rfl) rfl dX12_tight_23 ?_
        rw [hbd.2.2.1]
        refine zJ_icmp_ge 109 dX12_tight_26 (by decide) (fun _ => ?_) (fun c26 => absurd (nI_le (by omega) (by omega)) c26)
        refine zJ_iload_n dX12_tight_109 rfl ?_
        refine zJ_if_ne 117 dX12_tight_110 (by decide) (fun _ => ?_) (fun c110 => absurd c110 (by decide))
        refine zJ_iload_n dX12_tight_117 rfl ?_
        refine zJ_iret rfl dX12_tight_118 ?_
        exact ⟨_, I, rfl, rfl, rfl, cQ hI fQ_rfl⟩
    | succ m ih =>
      intro n hn
      have hn6 : n < 6 := by omega
      have IH := ih (n + 1) (by omega)
      have hpc := hbd.2.2.2.2.2.2.1 n hn6
      have ht : ∀ v, tgB S.2.1 S.2.2.1 n = v → (tgN S.2.1 S.2.2.1 (n + 1) = if v then (match tgN S.2.1 S.2.2.1 n with
          | none => some (n, blm S.2.1 n - sDel S.2.1 S.2.2.1 n)
          | some q => if blm S.2.1 n - sDel S.2.1 S.2.2.1 n < q.2 then some (n, blm S.2.1 n - sDel S.2.1 S.2.2.1 n) else some q) else tgN S.2.1 S.2.2.1 n) := fun v hv => by simp only [tgN, hv]
      refine zJ_iload dX12_tight_17 rfl ?_
      refine zJ_aload_n dX12_tight_19 rfl ?_
      refine zP_getr lf_X12_19 (zSt_ob hs 0 12 rfl) rfl (zSt_rf hs 0 1 3 rfl) dX12_tight_20 ?_
      refine zP_geti lf_X12_136 (zSt_ob hs 3 0 rfl) rfl dX12_tight_23 ?_
      rw [hbd.2.2.1]
      refine zJ_icmp_ge 109 dX12_tight_26 (by decide) (fun c26 => absurd c26 (nI_ge (by omega) (by omega))) (fun _ => ?_)
      refine zJ_aload_n dX12_tight_29 rfl ?_
      refine zP_getr lf_X12_19 (zSt_ob hs 0 12 rfl) rfl (zSt_rf hs 0 1 3 rfl) dX12_tight_30 ?_
      refine zP_getr lf_X12_221 (zSt_ob hs 3 0 rfl) rfl (zSt_rf hs 3 6 6 rfl) dX12_tight_33 ?_
      refine zJ_iload dX12_tight_36 rfl ?_
      refine zP_iald (zSt_ar hs 6 6 rfl) (by first | assumption | with_reducible exact vp_in_nI (by omega) (by omega) | (simp (disch := omega) only [nI_add, pk_mul, pk_sub, pk_div, pk_rem, nI_clamp]; with_reducible exact vp_in_nI (by omega) (by omega))) dX12_tight_38 ?_
      rw [nI_clamp (by omega), show (6 : Nat) = 3 + 3 from rfl, hpc.1]
      refine zJ_if_le 103 dX12_tight_39 (by decide) (fun c39 => ?_) (fun c39 => ?_)
      · skip
        refine zJ_iinc1 dX12_tight_103 rfl (by decide) ?_
        refine zJ_goto 17 dX12_tight_106 (by decide) ?_
        have e : tgB S.2.1 S.2.2.1 n = false := by unfold tgB; rw [decide_eq_false (fun z => absurd c39 (nI_nle z (by omega)))]; rfl
        rw [ht _ e] at IH
        exact IH
      · skip
        refine zJ_aload_n dX12_tight_42 rfl ?_
        refine zP_getr lf_X12_58 (zSt_ob hs 0 12 rfl) rfl (zSt_rf hs 0 8 41 rfl) dX12_tight_43 ?_
        refine zJ_aload_n dX12_tight_46 rfl ?_
        refine zP_getr lf_X12_97 (zSt_ob hs 0 12 rfl) rfl (zSt_rf hs 0 13 62 rfl) dX12_tight_47 ?_
        refine zJ_iload dX12_tight_50 rfl ?_
        refine zP_callVi [_, _] _ lv_X12_244 (k_X9_isJoined (d := d - 1) hl (by omega) hs hbd (zSt_state hs) hn6) (zSt_ob hs 41 9 rfl) rfl (by omega) (Nat.le_of_ble_eq_true rfl) rfl dX12_tight_52 ?_
        rw [jnd_R hW hR hn6]
        refine zJ_if_eq 103 dX12_tight_55 (by decide) (fun c55 => ?_) (fun c55 => ?_)
        · replace c55 := zb0.mp c55
          refine zJ_iinc1 dX12_tight_103 rfl (by decide) ?_
          refine zJ_goto 17 dX12_tight_106 (by decide) ?_
          have e : tgB S.2.1 S.2.2.1 n = false := by unfold tgB; rw [c55, Bool.and_false]
          rw [ht _ e] at IH
          exact IH
        · replace c55 := zb1.mp c55
          refine zJ_aload_n dX12_tight_58 rfl ?_
          refine zP_getr lf_X12_19 (zSt_ob hs 0 12 rfl) rfl (zSt_rf hs 0 1 3 rfl) dX12_tight_59 ?_
          refine zP_getr lf_X12_218 (zSt_ob hs 3 0 rfl) rfl (zSt_rf hs 3 5 5 rfl) dX12_tight_62 ?_
          refine zJ_iload dX12_tight_65 rfl ?_
          refine zP_iald (zSt_ar hs 5 6 rfl) (by first | assumption | with_reducible exact vp_in_nI (by omega) (by omega) | (simp (disch := omega) only [nI_add, pk_mul, pk_sub, pk_div, pk_rem, nI_clamp]; with_reducible exact vp_in_nI (by omega) (by omega))) dX12_tight_67 ?_
          rw [nI_clamp (by omega), hW.2.2.2.1 n hn6]
          refine zJ_aload_n dX12_tight_68 rfl ?_
          refine zP_getr lf_X12_58 (zSt_ob hs 0 12 rfl) rfl (zSt_rf hs 0 8 41 rfl) dX12_tight_69 ?_
          refine zJ_aload_n dX12_tight_72 rfl ?_
          refine zP_getr lf_X12_97 (zSt_ob hs 0 12 rfl) rfl (zSt_rf hs 0 13 62 rfl) dX12_tight_73 ?_
          refine zJ_iload dX12_tight_76 rfl ?_
          refine zP_callVi [_, _] _ lv_X12_232 (k_X9_delayOf (d := d - 1) hl (by omega) hs hbd (zSt_state hs) hwI hbk hn6) (zSt_ob hs 41 9 rfl) rfl (by omega) (Nat.le_of_ble_eq_true rfl) rfl dX12_tight_78 ?_
          rw [q_del hwk hW hR hn6]
          refine zJ_isub dX12_tight_81 ?_
          refine zJ_istore dX12_tight_82 (Nat.le_of_ble_eq_true rfl) (by decide) ?_
          have e : tgB S.2.1 S.2.2.1 n = true := by unfold tgB; rw [c55, decide_eq_true (Nat.pos_of_ne_zero (fun z => c39 (by rw [z]; decide)))]; rfl
          rw [ht _ e] at IH
          rw [if_pos rfl] at IH
          cases hq : tgN S.2.1 S.2.2.1 n with
          | none =>
            rw [hq] at IH
            refine zJ_iload_n dX12_tight_84 rfl ?_
            refine zJ_sipush (v := -1000) dX12_tight_85 rfl ?_
            refine zJ_icmp_eq 97 dX12_tight_88 (by decide) (fun _ => ?_) (fun c88 => absurd rfl c88)
            refine zJ_iload dX12_tight_97 rfl ?_
            refine zJ_istore_m 2 dX12_tight_99 rfl (Nat.le_of_ble_eq_true rfl) (by decide) ?_
            refine zJ_iload dX12_tight_100 rfl ?_
            refine zJ_istore_m 3 dX12_tight_102 rfl (Nat.le_of_ble_eq_true rfl) (by decide) ?_
            refine zJ_iinc1 dX12_tight_103 rfl (by decide) ?_
            refine zJ_goto 17 dX12_tight_106 (by decide) ?_
            exact zJ_back (zle_r (zle_r (zle_r (zle_r (zle_r (zle_n zle_0)))))) rfl IH
          | some q =>
            have hq6 := tgN_lt hq
            rw [hq] at IH
            simp only at IH
            refine zJ_iload_n dX12_tight_84 rfl ?_
            refine zJ_sipush (v := -1000) dX12_tight_85 rfl ?_
            refine zJ_icmp_eq 97 dX12_tight_88 (by decide) (fun c88 => absurd c88 (fun z => by have h9 : nI q.1 = -1000 := z; have := nI_pos (n := q.1) (by omega); rw [h9] at this; exact this (by decide))) (fun _ => ?_)
            refine zJ_iload dX12_tight_91 rfl ?_
            refine zJ_iload_n dX12_tight_93 rfl ?_
            refine zJ_icmp_ge 103 dX12_tight_94 (by decide) (fun c94 => ?_) (fun c94 => ?_)
            · skip
              refine zJ_iinc1 dX12_tight_103 rfl (by decide) ?_
              refine zJ_goto 17 dX12_tight_106 (by decide) ?_
              rw [if_neg (show ¬ blm S.2.1 n - sDel S.2.1 S.2.2.1 n < q.2 from fun z => absurd c94 (Int32.not_le.mpr z))] at IH
              exact zJ_back (zle_r (zle_r (zle_r (zle_r (zle_r (zle_n zle_0)))))) rfl IH
            · skip
              refine zJ_iload dX12_tight_97 rfl ?_
              refine zJ_istore_m 2 dX12_tight_99 rfl (Nat.le_of_ble_eq_true rfl) (by decide) ?_
              refine zJ_iload dX12_tight_100 rfl ?_
              refine zJ_istore_m 3 dX12_tight_102 rfl (Nat.le_of_ble_eq_true rfl) (by decide) ?_
              refine zJ_iinc1 dX12_tight_103 rfl (by decide) ?_
              refine zJ_goto 17 dX12_tight_106 (by decide) ?_
              rw [if_pos (show blm S.2.1 n - sDel S.2.1 S.2.2.1 n < q.2 from Int32.not_le.mp c94)] at IH
              exact zJ_back (zle_r (zle_r (zle_r (zle_r (zle_r (zle_n zle_0)))))) rfl IH
  refine zJ_aload_n dX12_tight_0 rfl ?_
  refine zJ_iload_n dX12_tight_1 rfl ?_
  refine zJ_iconst (v := nI 1) dX12_tight_2 rfl ?_
  refine zP_callVv [_, _] _ lv_X12_176 (k_needWhat (d := d - 1) hl (by omega) hs (k_what hk (by omega))) (zSt_ob hs 0 12 rfl) rfl (by omega) (Nat.le_of_ble_eq_true rfl) rfl dX12_tight_3 ?_
  refine zJ_sipush (v := -1000) dX12_tight_6 rfl ?_
  refine zJ_istore_m 2 dX12_tight_9 rfl (Nat.le_of_ble_eq_true rfl) (by decide) ?_
  refine zJ_sipush (v := -1000) dX12_tight_10 rfl ?_
  refine zJ_istore_m 3 dX12_tight_13 rfl (Nat.le_of_ble_eq_true rfl) (by decide) ?_
  refine zJ_iconst (v := nI 0) dX12_tight_14 rfl ?_
  refine zJ_istore dX12_tight_15 (Nat.le_of_ble_eq_true rfl) (by decide) ?_
  exact zJ_back (zle_r (zle_r (zle_i rfl (zle_i rfl (zle_r (zle_n zle_0)))))) rfl (loop (bN S.2.1) 0 (by omega))
noncomputable def okF (S : sT) : Nat → Bool := fitB S.2.1 S.2.2.1 S.2.2.2.1.length (bkP S.2.2.2.1) (bkW S.2.2.2.1)
def fst1 (ok : Nat → Bool) : Nat → Option Nat
  | 0 => none
  | n + 1 => match fst1 ok n with
    | some j => some j
    | none => if ok n then some n else none
theorem fst1_ok {ok : Nat → Bool} : ∀ {n : Nat}, (∀ j, fst1 ok n = some j → j < n ∧ ok j = true ∧ cB ok j = 0 ∧ 0 < cB ok n) ∧ (fst1 ok n = none → cB ok n = 0)
  | 0 => ⟨fun j h => (by cases h), fun _ => rfl⟩
  | n + 1 => by
    obtain ⟨i1, i2⟩ := fst1_ok (ok := ok) (n := n)
    simp only [fst1, cB]
    cases e : fst1 ok n with
    | some j =>
      obtain ⟨a1, a2, a3, a4⟩ := i1 j e
      refine ⟨fun j' h => ?_, fun h => by cases h⟩
      simp only [Option.some.injEq] at h
      subst h
      exact ⟨by omega, a2, a3, by omega⟩
    | none =>
      have h0 := i2 e
      simp only
      cases hok : ok n with
      | true => exact ⟨fun j h => by simp at h; subst h; exact ⟨by omega, hok, h0, by simp⟩, fun h => by simp at h⟩
      | false => exact ⟨fun j h => by simp at h, fun _ => by simp [h0]⟩
def o10 : Option Nat → Int32
  | none => -1
  | some j => nI (10 * (j / 2) + j % 2)
noncomputable def fitV (S : sT) (k : Nat) : Int32 := if k = 0 then nI (cB (okF S) (2 * bN S.2.1)) else o10 (fst1 (okF S) (2 * bN S.2.1))
theorem k_fits (hl : l.stackTraces = false) (hd : 12 ≤ d) (hs : zSt g) {S : sT} (hI : cI I g S) (hok : okS S) {k : Nat} (hk : k ≤ 1) : zEi l Xi mX12_fits d [.ref 0, .int (nI k)] I g (fun v J => v = fitV S k ∧ cI J g S ∧ fC I J) := by
  refine zC_of hl rfl rfl rfl (Nat.le_of_ble_eq_true rfl) (zav_r (zSt_ob hs 0 12 rfl).1 (zav_i zav_0)) ?_
  obtain ⟨hW, hR, hokR, hwk, hwI, hbk⟩ := cI_ctx hI hok
  have hN6 := hW.1.2.2.2.2.1
  have hcb : cB (okF S) (2 * bN S.2.1) ≤ 12 := Nat.le_trans cB_le (by omega)
  have hkk : k = 0 ∨ k = 1 := by omega
  rcases hkk with rfl | rfl
  · skip
    refine zJ_aload_n dX12_fits_0 rfl ?_
    refine zJ_iload_n dX12_fits_1 rfl ?_
    refine zJ_iconst (v := nI 1) dX12_fits_2 rfl ?_
    refine zP_callVv [_, _] _ lv_X12_176 (k_needWhat (d := d - 1) hl (by omega) hs (k_what (by omega) (by omega))) (zSt_ob hs 0 12 rfl) rfl (by omega) (Nat.le_of_ble_eq_true rfl) rfl dX12_fits_3 ?_
    refine zJ_aload_n dX12_fits_6 rfl ?_
    refine zP_getr lf_X12_83 (zSt_ob hs 0 12 rfl) rfl (zSt_rf hs 0 11 53 rfl) dX12_fits_7 ?_
    refine zJ_aload_n dX12_fits_10 rfl ?_
    refine zP_getr lf_X12_97 (zSt_ob hs 0 12 rfl) rfl (zSt_rf hs 0 13 62 rfl) dX12_fits_11 ?_
    refine zJ_aload_n dX12_fits_14 rfl ?_
    refine zP_getr lf_X12_101 (zSt_ob hs 0 12 rfl) rfl (zSt_rf hs 0 14 68 rfl) dX12_fits_15 ?_
    refine zP_ecallVi [_, _] _ lv_X12_320 (k_X2_findPairs (d := d - 1) hl (by omega) hs (zSt_state hs) (zSt_scratch hs) (by decide) (by decide) (by decide) hW hR hI.2.2.2.2.1) (zSt_ob hs 53 2 rfl) rfl (by omega) (Nat.le_of_ble_eq_true rfl) rfl dX12_fits_18 (fun v J hv => ?_)
    obtain ⟨rfl, hf, hq⟩ := hv
    refine zJ_istore_m 2 dX12_fits_21 rfl (Nat.le_of_ble_eq_true rfl) (by decide) ?_
    refine zJ_iload_n dX12_fits_22 rfl ?_
    refine zJ_if_ne 28 dX12_fits_23 (by decide) (fun c23 => absurd rfl c23) (fun _ => ?_)
    refine zJ_iload_n dX12_fits_26 rfl ?_
    refine zJ_iret rfl dX12_fits_27 ?_
    exact ⟨_, J, rfl, rfl, rfl, cQ hI (fQ_fZ hf)⟩
  · have ho := fst1_ok (ok := okF S) (n := 2 * bN S.2.1)
    have e1 : fitV S 1 = o10 (fst1 (okF S) (2 * bN S.2.1)) := rfl
    rw [e1]
    cases hj : fst1 (okF S) (2 * bN S.2.1) with
    | none =>
      have h0 := ho.2 hj
      refine zJ_aload_n dX12_fits_0 rfl ?_
      refine zJ_iload_n dX12_fits_1 rfl ?_
      refine zJ_iconst (v := nI 1) dX12_fits_2 rfl ?_
      refine zP_callVv [_, _] _ lv_X12_176 (k_needWhat (d := d - 1) hl (by omega) hs (k_what (by omega) (by omega))) (zSt_ob hs 0 12 rfl) rfl (by omega) (Nat.le_of_ble_eq_true rfl) rfl dX12_fits_3 ?_
      refine zJ_aload_n dX12_fits_6 rfl ?_
      refine zP_getr lf_X12_83 (zSt_ob hs 0 12 rfl) rfl (zSt_rf hs 0 11 53 rfl) dX12_fits_7 ?_
      refine zJ_aload_n dX12_fits_10 rfl ?_
      refine zP_getr lf_X12_97 (zSt_ob hs 0 12 rfl) rfl (zSt_rf hs 0 13 62 rfl) dX12_fits_11 ?_
      refine zJ_aload_n dX12_fits_14 rfl ?_
      refine zP_getr lf_X12_101 (zSt_ob hs 0 12 rfl) rfl (zSt_rf hs 0 14 68 rfl) dX12_fits_15 ?_
      refine zP_ecallVi [_, _] _ lv_X12_320 (k_X2_findPairs (d := d - 1) hl (by omega) hs (zSt_state hs) (zSt_scratch hs) (by decide) (by decide) (by decide) hW hR hI.2.2.2.2.1) (zSt_ob hs 53 2 rfl) rfl (by omega) (Nat.le_of_ble_eq_true rfl) rfl dX12_fits_18 (fun v J hv => ?_)
      obtain ⟨hv1, hf, hq⟩ := hv
      have hv2 : v = nI 0 := by rw [hv1, ← h0]; rfl
      subst hv2
      refine zJ_istore_m 2 dX12_fits_21 rfl (Nat.le_of_ble_eq_true rfl) (by decide) ?_
      refine zJ_iload_n dX12_fits_22 rfl ?_
      refine zJ_if_ne 28 dX12_fits_23 (by decide) (fun _ => ?_) (fun c23 => absurd c23 (by decide))
      refine zJ_iload_n dX12_fits_28 rfl ?_
      refine zJ_if_ne 36 dX12_fits_29 (by decide) (fun c29 => absurd rfl c29) (fun _ => ?_)
      refine zJ_iconst (v := -1) dX12_fits_32 rfl ?_
      refine zJ_goto 45 dX12_fits_33 (by decide) ?_
      refine zJ_iret rfl dX12_fits_45 ?_
      exact ⟨_, J, rfl, rfl, rfl, cQ hI (fQ_fZ hf)⟩
    | some j =>
      obtain ⟨a1, a2, a3, a4⟩ := ho.1 j hj
      refine zJ_aload_n dX12_fits_0 rfl ?_
      refine zJ_iload_n dX12_fits_1 rfl ?_
      refine zJ_iconst (v := nI 1) dX12_fits_2 rfl ?_
      refine zP_callVv [_, _] _ lv_X12_176 (k_needWhat (d := d - 1) hl (by omega) hs (k_what (by omega) (by omega))) (zSt_ob hs 0 12 rfl) rfl (by omega) (Nat.le_of_ble_eq_true rfl) rfl dX12_fits_3 ?_
      refine zJ_aload_n dX12_fits_6 rfl ?_
      refine zP_getr lf_X12_83 (zSt_ob hs 0 12 rfl) rfl (zSt_rf hs 0 11 53 rfl) dX12_fits_7 ?_
      refine zJ_aload_n dX12_fits_10 rfl ?_
      refine zP_getr lf_X12_97 (zSt_ob hs 0 12 rfl) rfl (zSt_rf hs 0 13 62 rfl) dX12_fits_11 ?_
      refine zJ_aload_n dX12_fits_14 rfl ?_
      refine zP_getr lf_X12_101 (zSt_ob hs 0 12 rfl) rfl (zSt_rf hs 0 14 68 rfl) dX12_fits_15 ?_
      refine zP_ecallVi [_, _] _ lv_X12_320 (k_X2_findPairs (d := d - 1) hl (by omega) hs (zSt_state hs) (zSt_scratch hs) (by decide) (by decide) (by decide) hW hR hI.2.2.2.2.1) (zSt_ob hs 53 2 rfl) rfl (by omega) (Nat.le_of_ble_eq_true rfl) rfl dX12_fits_18 (fun v J hv => ?_)
      obtain ⟨hv1, hf, hq⟩ := hv
      have hv2 : v = nI (cB (okF S) (2 * bN S.2.1)) := hv1
      subst hv2
      refine zJ_istore_m 2 dX12_fits_21 rfl (Nat.le_of_ble_eq_true rfl) (by decide) ?_
      refine zJ_iload_n dX12_fits_22 rfl ?_
      refine zJ_if_ne 28 dX12_fits_23 (by decide) (fun _ => ?_) (fun c23 => absurd c23 (by decide))
      refine zJ_iload_n dX12_fits_28 rfl ?_
      refine zJ_if_ne 36 dX12_fits_29 (by decide) (fun _ => ?_) (fun c29 => absurd c29 (nI_ne0 a4 (by omega)))
      refine zJ_aload_n dX12_fits_36 rfl ?_
      refine zP_getr lf_X12_83 (zSt_ob hs 0 12 rfl) rfl (zSt_rf hs 0 11 53 rfl) dX12_fits_37 ?_
      refine zP_getr lf_X12_324 (zSt_ob hs 53 2 rfl) rfl (zSt_rf hs 53 3 54 rfl) dX12_fits_40 ?_
      refine zJ_iconst (v := nI 0) dX12_fits_43 rfl ?_
      refine zP_iald (zSt_ar hs 54 12 rfl) (by first | assumption | with_reducible exact vp_in_nI (by omega) (by omega) | (simp (disch := omega) only [nI_add, pk_mul, pk_sub, pk_div, pk_rem, nI_clamp]; with_reducible exact vp_in_nI (by omega) (by omega))) dX12_fits_44 ?_
      refine zJ_iret rfl dX12_fits_45 ?_
      refine ⟨_, J, rfl, rfl, ?_, cQ hI (fQ_fZ hf)⟩
      have h9 := (hq j a1 a2).1
      have h8 : cB (fitB S.2.1 S.2.2.1 S.2.2.2.1.length (bkP S.2.2.2.1) (bkW S.2.2.2.1)) j = 0 := a3
      rw [h8] at h9
      exact h9
noncomputable def lkN (S : sT) : Nat → Option (Nat × Nat)
  | 0 => none
  | p + 1 => if insM S.2.1 p && !(bkA S.2.2.2.1 p) then (match lkN S p with
    | none => some (p, bigM S.2.1 S.2.2.1 (okF S) p)
    | some q => if bigM S.2.1 S.2.2.1 (okF S) p < q.2 then some (p, bigM S.2.1 S.2.2.1 (okF S) p) else some q) else lkN S p
def lk1 : Option (Nat × Nat) → Int32
  | none => -1
  | some q => nI q.1
def lk2 : Option (Nat × Nat) → Int32
  | none => -1
  | some q => nI q.2
def lk3 : Option (Nat × Nat) → Int32
  | none => -1
  | some q => nI (nmP q.1)
noncomputable def lkV (S : sT) (k : Nat) : Int32 := if k = 0 then lk3 (lkN S 64) else lk2 (lkN S 64)
theorem big_le {S : sT} {p : Nat} (hN : bN S.2.1 ≤ 6) : bigM S.2.1 S.2.2.1 (okF S) p ≤ 12 := mxG_le (fun u _ => Nat.le_trans cB_le (by omega))
theorem lkN_ok {S : sT} (hN : bN S.2.1 ≤ 6) : ∀ {p : Nat} {q : Nat × Nat}, lkN S p = some q → q.1 < p ∧ q.2 ≤ 12
  | 0, q, h => by cases h
  | p + 1, q, h => by
    have hb := big_le (S := S) (p := p) hN
    simp only [lkN] at h
    split at h
    · cases e : lkN S p with
      | none => rw [e] at h; cases h; exact ⟨by simp, hb⟩
      | some q' =>
        have := lkN_ok hN e
        rw [e] at h
        simp only at h
        split at h
        · cases h; exact ⟨by simp, hb⟩
        · cases h; omega
    · have := lkN_ok hN h; omega
set_option maxHeartbeats 1000000 in
theorem k_look (hl : l.stackTraces = false) (hd : 12 ≤ d) (hs : zSt g) {S : sT} (hI : cI I g S) (hok : okS S) {k : Nat} (hk : k ≤ 1) : zEi l Xi mX12_look d [.ref 0, .int (nI k)] I g (fun v J => v = lkV S k ∧ cI J g S ∧ fC I J) := by
  refine zC_of hl rfl rfl rfl (Nat.le_of_ble_eq_true rfl) (zav_r (zSt_ob hs 0 12 rfl).1 (zav_i zav_0)) ?_
  obtain ⟨hW, hR, hokR, hwk, hwI, hbk⟩ := cI_ctx hI hok
  have hN6 := hW.1.2.2.2.2.1
  have hC8 := hW.1.2.1
  have hR8 := hW.1.2.2.2.1
  have loop : ∀ m p (J : zI), p + m = 64 → fZ 68 I J → fitQ S.2.1 S.2.2.1 (okF S) J (2 * bN S.2.1) → zJ l Xi mX12_look d 0 0 30 [some (.ref 0), some (.int (nI k)), some (.int (nI (cB (okF S) (2 * bN S.2.1)))), some (.int (lk1 (lkN S p))), some (.int (lk2 (lkN S p))), some (.int (nI p)), none] [] (J, g) (fun r' h' => ∃ x I', r' = .inl (some (.int x)) ∧ h' = (I', g) ∧ x = lkV S k ∧ cI I' g S ∧ fC I I') := by
    intro m
    induction m with
    | zero =>
      intro p J hp hf hq
      obtain rfl : p = 64 := by omega
      have hkk : k = 0 ∨ k = 1 := by omega
      rcases hkk with rfl | rfl
      · have e0 : lkV S 0 = lk3 (lkN S 64) := rfl
        rw [e0]
        cases hn : lkN S 64 with
        | none =>
          refine zJ_iload dX12_look_30 rfl ?_
          refine zJ_bipush (v := nI 64) dX12_look_32 rfl ?_
          refine zJ_icmp_ge 98 dX12_look_34 (by decide) (fun _ => ?_) (fun c34 => absurd (nI_le (by omega) (by omega)) c34)
          refine zJ_iload_n dX12_look_98 rfl ?_
          refine zJ_iconst (v := nI 1) dX12_look_99 rfl ?_
          refine zJ_icmp_eq 108 dX12_look_100 (by decide) (fun c100 => absurd c100 (by decide)) (fun _ => ?_)
          refine zJ_iload_n dX12_look_103 rfl ?_
          refine zJ_iconst (v := -1) dX12_look_104 rfl ?_
          refine zJ_icmp_ne 113 dX12_look_105 (by decide) (fun c105 => absurd rfl c105) (fun _ => ?_)
          refine zJ_iload dX12_look_108 rfl ?_
          refine zJ_goto 117 dX12_look_110 (by decide) ?_
          refine zJ_iret rfl dX12_look_117 ?_
          exact ⟨_, J, rfl, rfl, rfl, cQ hI (fQ_fZ hf)⟩
        | some q =>
          have hq1 := lkN_ok hN6 hn
          refine zJ_iload dX12_look_30 rfl ?_
          refine zJ_bipush (v := nI 64) dX12_look_32 rfl ?_
          refine zJ_icmp_ge 98 dX12_look_34 (by decide) (fun _ => ?_) (fun c34 => absurd (nI_le (by omega) (by omega)) c34)
          refine zJ_iload_n dX12_look_98 rfl ?_
          refine zJ_iconst (v := nI 1) dX12_look_99 rfl ?_
          refine zJ_icmp_eq 108 dX12_look_100 (by decide) (fun c100 => absurd c100 (by decide)) (fun _ => ?_)
          refine zJ_iload_n dX12_look_103 rfl ?_
          refine zJ_iconst (v := -1) dX12_look_104 rfl ?_
          refine zJ_icmp_ne 113 dX12_look_105 (by decide) (fun _ => ?_) (fun c105 => absurd c105 (show ¬ nI q.1 = -1 from nI_ne1 (by omega)))
          refine zJ_iload_n dX12_look_113 rfl ?_
          refine zP_callSi [_] _ ls_X12_338 (k_nameOf (p := q.1) (d := d - 1) hl (by omega) (by omega)) rfl (by omega) (Nat.le_of_ble_eq_true rfl) rfl dX12_look_114 ?_
          refine zJ_iret rfl dX12_look_117 ?_
          exact ⟨_, J, rfl, rfl, rfl, cQ hI (fQ_fZ hf)⟩
      · skip
        refine zJ_iload dX12_look_30 rfl ?_
        refine zJ_bipush (v := nI 64) dX12_look_32 rfl ?_
        refine zJ_icmp_ge 98 dX12_look_34 (by decide) (fun _ => ?_) (fun c34 => absurd (nI_le (by omega) (by omega)) c34)
        refine zJ_iload_n dX12_look_98 rfl ?_
        refine zJ_iconst (v := nI 1) dX12_look_99 rfl ?_
        refine zJ_icmp_eq 108 dX12_look_100 (by decide) (fun _ => ?_) (fun c100 => absurd rfl c100)
        refine zJ_iload dX12_look_108 rfl ?_
        refine zJ_goto 117 dX12_look_110 (by decide) ?_
        refine zJ_iret rfl dX12_look_117 ?_
        exact ⟨_, J, rfl, rfl, rfl, cQ hI (fQ_fZ hf)⟩
    | succ m ih =>
      intro p J hp hf hq
      have hIJ := cI_fQ hI (fQ_fZ hf)
      have hWJ := hIJ.2.2.1
      have hkJ := hIJ.2.2.2.2.1
      have hbg := big_le (S := S) (p := p) hN6
      have ht : ∀ v, (insM S.2.1 p && !(bkA S.2.2.2.1 p)) = v → (lkN S (p + 1) = if v then (match lkN S p with
          | none => some (p, bigM S.2.1 S.2.2.1 (okF S) p)
          | some q => if bigM S.2.1 S.2.2.1 (okF S) p < q.2 then some (p, bigM S.2.1 S.2.2.1 (okF S) p) else some q) else lkN S p) := fun v hv => by simp only [lkN, hv]
      have IH := fun K h1 h2 => ih (p + 1) K (by omega) h1 h2
      refine zJ_iload dX12_look_30 rfl ?_
      refine zJ_bipush (v := nI 64) dX12_look_32 rfl ?_
      refine zJ_icmp_ge 98 dX12_look_34 (by decide) (fun c34 => absurd c34 (nI_ge (by omega) (by omega))) (fun _ => ?_)
      refine zJ_aload_n dX12_look_37 rfl ?_
      refine zP_getr lf_X12_19 (zSt_ob hs 0 12 rfl) rfl (zSt_rf hs 0 1 3 rfl) dX12_look_38 ?_
      refine zJ_iload dX12_look_41 rfl ?_
      refine zP_callVi [_] _ lv_X12_327 (k_X0_isInside (d := d - 1) hl (by omega) (zSt_board hs) hWJ.2.1.1 hWJ.2.1.2.1 hC8 hR8 (by omega)) (zSt_ob hs 3 0 rfl) rfl (by omega) (Nat.le_of_ble_eq_true rfl) rfl dX12_look_43 ?_
      refine zJ_if_eq 92 dX12_look_46 (by decide) (fun c46 => ?_) (fun c46 => ?_)
      · replace c46 := zb0.mp c46
        refine zJ_iinc1 dX12_look_92 rfl (by decide) ?_
        refine zJ_goto 30 dX12_look_95 (by decide) ?_
        have h9 := IH J hf hq
        rw [ht false (by have c : insM S.2.1 p = false := c46; rw [c]; rfl)] at h9
        exact zJ_back (zle_r (zle_r (zle_r (zle_r (zle_r (zle_r (zle_n zle_0))))))) rfl h9
      · replace c46 := zb1.mp c46
        refine zJ_aload_n dX12_look_49 rfl ?_
        refine zP_getr lf_X12_39 (zSt_ob hs 0 12 rfl) rfl (zSt_rf hs 0 5 29 rfl) dX12_look_50 ?_
        refine zJ_iload dX12_look_53 rfl ?_
        refine zP_callVi [_] _ lv_X12_331 (k_X1_hasLineAt (d := d - 1) hl (by omega) (zSt_book hs) hkJ (by omega)) (zSt_ob hs 29 1 rfl) rfl (by omega) (Nat.le_of_ble_eq_true rfl) rfl dX12_look_55 ?_
        refine zJ_if_ne 92 dX12_look_58 (by decide) (fun c58 => ?_) (fun c58 => ?_)
        · replace c58 := zb1.mp c58
          refine zJ_iinc1 dX12_look_92 rfl (by decide) ?_
          refine zJ_goto 30 dX12_look_95 (by decide) ?_
          have h9 := IH J hf hq
          rw [ht false (by have c : bkA S.2.2.2.1 p = true := c58; rw [c]; simp)] at h9
          exact zJ_back (zle_r (zle_r (zle_r (zle_r (zle_r (zle_r (zle_n zle_0))))))) rfl h9
        · replace c58 := zb0.mp c58
          refine zJ_aload_n dX12_look_61 rfl ?_
          refine zP_getr lf_X12_83 (zSt_ob hs 0 12 rfl) rfl (zSt_rf hs 0 11 53 rfl) dX12_look_62 ?_
          refine zJ_iload_n dX12_look_65 rfl ?_
          refine zJ_iload dX12_look_66 rfl ?_
          refine zP_ecallVi [_, _] _ lv_X12_334 (k_X2_biggestGroup (p := p) (d := d - 1) hl (by omega) hs hN6 (by omega) hq) (zSt_ob hs 53 2 rfl) rfl (by omega) (Nat.le_of_ble_eq_true rfl) rfl dX12_look_68 (fun v K hv => ?_)
          obtain ⟨rfl, f, rfl⟩ := hv
          refine zJ_istore dX12_look_71 (Nat.le_of_ble_eq_true rfl) (by decide) ?_
          have hfK : fZ 68 I (va_up J 56 f) := fZ_up hf (by decide)
          have hqK : fitQ S.2.1 S.2.2.1 (okF S) (va_up J 56 f) (2 * bN S.2.1) := fun j h1 h2 => by rw [va_up_row (by decide), va_up_row (by decide)]; exact hq j h1 h2
          have h9 := IH _ hfK hqK
          rw [ht true (by have c : insM S.2.1 p = true := c46; have c' : bkA S.2.2.2.1 p = false := c58; rw [c, c']; rfl), if_pos rfl] at h9
          cases hn : lkN S p with
          | none =>
            rw [hn] at h9
            refine zJ_iload_n dX12_look_73 rfl ?_
            refine zJ_iconst (v := -1) dX12_look_74 rfl ?_
            refine zJ_icmp_eq 85 dX12_look_75 (by decide) (fun _ => ?_) (fun c75 => absurd rfl c75)
            refine zJ_iload dX12_look_85 rfl ?_
            refine zJ_istore_m 3 dX12_look_87 rfl (Nat.le_of_ble_eq_true rfl) (by decide) ?_
            refine zJ_iload dX12_look_88 rfl ?_
            refine zJ_istore dX12_look_90 (Nat.le_of_ble_eq_true rfl) (by decide) ?_
            refine zJ_iinc1 dX12_look_92 rfl (by decide) ?_
            refine zJ_goto 30 dX12_look_95 (by decide) ?_
            exact zJ_back (zle_r (zle_r (zle_r (zle_r (zle_r (zle_r (zle_n zle_0))))))) rfl h9
          | some q =>
            have hq1 := lkN_ok hN6 hn
            rw [hn] at h9
            simp only at h9
            refine zJ_iload_n dX12_look_73 rfl ?_
            refine zJ_iconst (v := -1) dX12_look_74 rfl ?_
            refine zJ_icmp_eq 85 dX12_look_75 (by decide) (fun c75 => absurd c75 (show ¬ nI q.1 = -1 from nI_ne1 (by omega))) (fun _ => ?_)
            refine zJ_iload dX12_look_78 rfl ?_
            refine zJ_iload dX12_look_80 rfl ?_
            refine zJ_icmp_ge 92 dX12_look_82 (by decide) (fun c82 => ?_) (fun c82 => ?_)
            · skip
              refine zJ_iinc1 dX12_look_92 rfl (by decide) ?_
              refine zJ_goto 30 dX12_look_95 (by decide) ?_
              have e : ¬ bigM S.2.1 S.2.2.1 (okF S) p < q.2 := fun z => absurd ((nI_leI (a := q.2) (by omega) (by omega)).mp c82) (by omega)
              rw [if_neg e] at h9
              exact zJ_back (zle_r (zle_r (zle_r (zle_r (zle_r (zle_r (zle_n zle_0))))))) rfl h9
            · skip
              refine zJ_iload dX12_look_85 rfl ?_
              refine zJ_istore_m 3 dX12_look_87 rfl (Nat.le_of_ble_eq_true rfl) (by decide) ?_
              refine zJ_iload dX12_look_88 rfl ?_
              refine zJ_istore dX12_look_90 (Nat.le_of_ble_eq_true rfl) (by decide) ?_
              refine zJ_iinc1 dX12_look_92 rfl (by decide) ?_
              refine zJ_goto 30 dX12_look_95 (by decide) ?_
              have e : bigM S.2.1 S.2.2.1 (okF S) p < q.2 := Nat.lt_of_not_le (fun z => c82 ((nI_leI (a := q.2) (by omega) (by omega)).mpr z))
              rw [if_pos e] at h9
              exact zJ_back (zle_r (zle_r (zle_r (zle_r (zle_r (zle_r (zle_n zle_0))))))) rfl h9
  refine zJ_aload_n dX12_look_0 rfl ?_
  refine zJ_iload_n dX12_look_1 rfl ?_
  refine zJ_iconst (v := nI 1) dX12_look_2 rfl ?_
  refine zP_callVv [_, _] _ lv_X12_176 (k_needWhat (d := d - 1) hl (by omega) hs (k_what hk (by omega))) (zSt_ob hs 0 12 rfl) rfl (by omega) (Nat.le_of_ble_eq_true rfl) rfl dX12_look_3 ?_
  refine zJ_aload_n dX12_look_6 rfl ?_
  refine zP_getr lf_X12_83 (zSt_ob hs 0 12 rfl) rfl (zSt_rf hs 0 11 53 rfl) dX12_look_7 ?_
  refine zJ_aload_n dX12_look_10 rfl ?_
  refine zP_getr lf_X12_97 (zSt_ob hs 0 12 rfl) rfl (zSt_rf hs 0 13 62 rfl) dX12_look_11 ?_
  refine zJ_aload_n dX12_look_14 rfl ?_
  refine zP_getr lf_X12_101 (zSt_ob hs 0 12 rfl) rfl (zSt_rf hs 0 14 68 rfl) dX12_look_15 ?_
  refine zP_ecallVi [_, _] _ lv_X12_320 (k_X2_findPairs (d := d - 1) hl (by omega) hs (zSt_state hs) (zSt_scratch hs) (by decide) (by decide) (by decide) hW hR hI.2.2.2.2.1) (zSt_ob hs 53 2 rfl) rfl (by omega) (Nat.le_of_ble_eq_true rfl) rfl dX12_look_18 (fun v J hv => ?_)
  obtain ⟨rfl, hf, hq⟩ := hv
  refine zJ_istore_m 2 dX12_look_21 rfl (Nat.le_of_ble_eq_true rfl) (by decide) ?_
  refine zJ_iconst (v := -1) dX12_look_22 rfl ?_
  refine zJ_istore_m 3 dX12_look_23 rfl (Nat.le_of_ble_eq_true rfl) (by decide) ?_
  refine zJ_iconst (v := -1) dX12_look_24 rfl ?_
  refine zJ_istore dX12_look_25 (Nat.le_of_ble_eq_true rfl) (by decide) ?_
  refine zJ_iconst (v := nI 0) dX12_look_27 rfl ?_
  refine zJ_istore dX12_look_28 (Nat.le_of_ble_eq_true rfl) (by decide) ?_
  exact zJ_back (zle_r (zle_r (zle_r (zle_i rfl (zle_i rfl (zle_r (zle_n zle_0))))))) rfl (loop 64 0 J (by omega) hf hq)
end ZX12c
