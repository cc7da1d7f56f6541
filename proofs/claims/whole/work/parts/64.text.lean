/-! ===== Text, with its fault as an option ===== -/
section ZText2
variable {l : Launch} {Xi : zXi} {d : Nat} {I : zI} {g : zG}
def eK : Option (Nat × Nat) → Nat
  | none => 0
  | some q => q.1
def eW : Option (Nat × Nat) → Int32
  | none => -1
  | some q => nI q.2
def mg : Option (Nat × Nat) → Option (Nat × Nat) → Option (Nat × Nat)
  | none, f => f
  | some q, _ => some q
def tX (I : zI) (bs : Nat → Nat) (L A F : Nat) (e : Option (Nat × Nat)) : Prop := tx I bs L A F (eK e) (eW e) ∧ ∀ q, e = some q → 1 ≤ q.1
section ACC
variable {bs : Nat → Nat} {L A F : Nat} {e : Option (Nat × Nat)} (h : tX I bs L A F e)
theorem tX_len (h : tX I bs L A F e) : I 1 2 = nI L := h.1.2.1
theorem tX_at (h : tX I bs L A F e) : I 1 3 = nI A := h.1.2.2.2.1
theorem tX_fr (h : tX I bs L A F e) : I 1 4 = nI F := h.1.2.2.2.2.2.1
theorem tX_k (h : tX I bs L A F e) : I 1 5 = nI (eK e) := h.1.2.2.2.2.2.2.2.1
theorem tX_w (h : tX I bs L A F e) : I 1 6 = eW e := h.1.2.2.2.2.2.2.2.2.2.1
theorem tX_le (h : tX I bs L A F e) : A ≤ L ∧ F ≤ A ∧ L ≤ 600 := ⟨h.1.2.2.2.2.1, h.1.2.2.2.2.2.2.1, h.1.2.2.1⟩
theorem tX_by (h : tX I bs L A F e) {k : Nat} (hk : k < 600) : I 2 k = nI (bs k) ∧ bs k < 256 := h.1.2.2.2.2.2.2.2.2.2.2 k hk
theorem tX_sat (h : tX I bs L A F e) {A' : Nat} (h1 : A' ≤ L) (h2 : F ≤ A') : tX (zup I 1 3 (nI A')) bs L A' F e := ⟨tx_at h.1 h1 h2, h.2⟩
theorem tX_of {J : zI} (h : tX I bs L A F e) (e1 : J 1 = I 1) (e2 : J 2 = I 2) : tX J bs L A F e := ⟨tx_of h.1 e1 e2, h.2⟩
theorem tX_isD (h : tX I bs L A F e) : (eK e = 0) ↔ e = none := by
  cases e with
  | none => exact ⟨fun _ => rfl, fun _ => rfl⟩
  | some q => exact ⟨fun z => by have := h.2 q rfl; simp only [eK] at z; omega, fun z => by cases z⟩
end ACC
theorem k_failed (hl : l.stackTraces = false) (hd : 1 ≤ d) (hs : zSt g) {bs : Nat → Nat} {L A F : Nat} {e : Option (Nat × Nat)} (ht : tX I bs L A F e) : zD l Xi mX10_failed d [.ref 1] I g (some (.int (if e.isSome then 1 else 0))) I := by
  have h := k_X10_failed (Xi := Xi) hl hd hs ht.1
  rw [show decide (eK e ≠ 0) = e.isSome from (by cases e with | none => rfl | some q => exact decide_eq_true (show q.1 ≠ 0 from fun z => by have := ht.2 q rfl; omega))] at h
  exact h
theorem k_fail (hl : l.stackTraces = false) (hd : 1 ≤ d) (hs : zSt g) {bs : Nat → Nat} {L A F k w : Nat} {e : Option (Nat × Nat)} {x : Int32} (ht : tX I bs L A F e) (hk : k ≤ 3) (hk1 : 1 ≤ k) (hx : x = nI w) : zEv l Xi mX10_fail d [.ref 1, .int (nI k), .int x] I g (fun J => fT I J ∧ tX J bs L A F (mg e (some (k, w)))) := by
  subst hx
  refine zC_imp (k_X10_fail hl hd hs ht.1 hk) (fun r h' hp => ?_)
  obtain ⟨h1, J, h2, h3, h4⟩ := hp
  refine ⟨h1, J, h2, h3, ?_⟩
  cases e with
  | none => exact ⟨h4, fun q hq => by cases hq; exact hk1⟩
  | some q =>
    have := ht.2 q rfl
    rw [if_neg (by simp only [eK]; omega), if_neg (by simp only [eK]; omega)] at h4
    exact ⟨h4, ht.2⟩
theorem k_skip (hl : l.stackTraces = false) (hd : 1 ≤ d) (hs : zSt g) {bs : Nat → Nat} {L A F : Nat} {e : Option (Nat × Nat)} (ht : tX I bs L A F e) : zEv l Xi mX10_skipBlanks d [.ref 1] I g (fun J => fT I J ∧ tX J bs L (sk bs L A) (sk bs L A) e) := by
  refine zC_imp (k_X10_skipBlanks hl hd hs ht.1) (fun r h' hp => ?_)
  obtain ⟨h1, J, h2, h3, h4⟩ := hp
  exact ⟨h1, J, h2, h3, h4, ht.2⟩
def digB (x : Int32) : Bool := decide (nI 48 ≤ x) && decide (x ≤ nI 57)
theorem k_X10_isDigit (hl : l.stackTraces = false) (hd : 1 ≤ d) {x : Int32} : zD l Xi mX10_isDigit d [.int x] I g (some (.int (if digB x then 1 else 0))) I := by
  refine zC_of hl rfl rfl rfl (Nat.le_of_ble_eq_true rfl) (zav_i zav_0) ?_
  refine zJ_iload_n dX10_isDigit_0 rfl ?_
  refine zJ_bipush (v := nI 48) dX10_isDigit_1 rfl ?_
  refine zJ_icmp_lt 16 dX10_isDigit_3 (by decide) (fun c3 => ?_) (fun c3 => ?_)
  · skip
    refine zJ_iconst (v := nI 0) dX10_isDigit_16 rfl ?_
    refine zJ_zret rfl (by decide) dX10_isDigit_17 ?_
    exact ⟨by rw [show digB x = false by simp [digB, Int32.not_le.mpr c3]]; rfl, rfl⟩
  · skip
    refine zJ_iload_n dX10_isDigit_6 rfl ?_
    refine zJ_bipush (v := nI 57) dX10_isDigit_7 rfl ?_
    refine zJ_icmp_gt 16 dX10_isDigit_9 (by decide) (fun c9 => ?_) (fun c9 => ?_)
    · skip
      refine zJ_iconst (v := nI 0) dX10_isDigit_16 rfl ?_
      refine zJ_zret rfl (by decide) dX10_isDigit_17 ?_
      exact ⟨by rw [show digB x = false by simp [digB, Int32.not_le.mpr c9]]; rfl, rfl⟩
    · skip
      refine zJ_iconst (v := nI 1) dX10_isDigit_12 rfl ?_
      refine zJ_goto 17 dX10_isDigit_13 (by decide) ?_
      refine zJ_zret rfl (by decide) dX10_isDigit_17 ?_
      exact ⟨by rw [show digB x = true by simp [digB, Int32.not_lt.mp c3, Int32.not_lt.mp c9]]; rfl, rfl⟩
theorem digB_eq {bs : Nat → Nat} {k : Nat} (h : bs k < 256) : digB (nI (bs k)) = dgB bs k := by
  unfold digB dgB
  rw [show decide (nI 48 ≤ nI (bs k)) = decide (48 ≤ bs k) from decide_eq_decide.mpr (nI_leI (by omega) (by omega)), show decide (nI (bs k) ≤ nI 57) = decide (bs k ≤ 57) from decide_eq_decide.mpr (nI_leI (by omega) (by omega))]
theorem sk_le {bs : Nat → Nat} {L A : Nat} (h : A ≤ L) : sk bs L A ≤ L := sp_l h
theorem k_ended (hl : l.stackTraces = false) (hd : 2 ≤ d) (hs : zSt g) {bs : Nat → Nat} {L A F : Nat} {e : Option (Nat × Nat)} (ht : tX I bs L A F e) : zEi l Xi mX10_ended d [.ref 1] I g (fun x J => x = (if decide (L ≤ sk bs L A) then 1 else 0) ∧ fT I J ∧ tX J bs L (sk bs L A) (sk bs L A) e) := by
  refine zC_of hl rfl rfl rfl (Nat.le_of_ble_eq_true rfl) (zav_r (zSt_ob hs 1 10 rfl).1 zav_0) ?_
  have hle := tX_le ht
  have hsk := sk_le (bs := bs) hle.1
  refine zJ_aload_n dX10_ended_0 rfl ?_
  refine zP_ecallVv [] _ lv_X10_34 (k_skip (d := d - 1) hl (by omega) hs ht) (zSt_ob hs 1 10 rfl) rfl (by omega) (Nat.le_of_ble_eq_true rfl) rfl dX10_ended_1 (fun J hJ => ?_)
  refine zJ_aload_n dX10_ended_4 rfl ?_
  refine zP_geti lf_X10_25 (zSt_ob hs 1 10 rfl) rfl dX10_ended_5 ?_
  refine zJ_aload_n dX10_ended_8 rfl ?_
  refine zP_geti lf_X10_22 (zSt_ob hs 1 10 rfl) rfl dX10_ended_9 ?_
  rw [tX_at hJ.2, tX_len hJ.2]
  refine zJ_icmp_lt 19 dX10_ended_12 (by decide) (fun c12 => ?_) (fun c12 => ?_)
  · skip
    refine zJ_iconst (v := nI 0) dX10_ended_19 rfl ?_
    refine zJ_zret rfl (by decide) dX10_ended_20 ?_
    refine ⟨_, J, rfl, rfl, ?_, hJ⟩
    rw [decide_eq_false (fun z => absurd c12 (nI_nlt z (by omega)))]; rfl
  · skip
    refine zJ_iconst (v := nI 1) dX10_ended_15 rfl ?_
    refine zJ_goto 20 dX10_ended_16 (by decide) ?_
    refine zJ_zret rfl (by decide) dX10_ended_20 ?_
    refine ⟨_, J, rfl, rfl, ?_, hJ⟩
    rw [decide_eq_true (Nat.not_lt.mp (fun z => c12 (nI_lt z (by omega))))]; rfl
def hitB (bs : Nat → Nat) (L a c : Nat) : Bool := decide (a < L) && decide (bs a = c)
theorem k_digitIsNext (hl : l.stackTraces = false) (hd : 2 ≤ d) (hs : zSt g) {bs : Nat → Nat} {L A F : Nat} {e : Option (Nat × Nat)} (ht : tX I bs L A F e) : zEi l Xi mX10_digitIsNext d [.ref 1] I g (fun x J => x = (if decide (sk bs L A < L) && dgB bs (sk bs L A) then 1 else 0) ∧ fT I J ∧ tX J bs L (sk bs L A) (sk bs L A) e) := by
  refine zC_of hl rfl rfl rfl (Nat.le_of_ble_eq_true rfl) (zav_r (zSt_ob hs 1 10 rfl).1 zav_0) ?_
  have hle := tX_le ht
  have hsk := sk_le (bs := bs) hle.1
  obtain ⟨a, ha⟩ : ∃ a, sk bs L A = a := ⟨_, rfl⟩
  rw [ha] at hsk ⊢
  have sk9 : ∀ {d : Nat}, 1 ≤ d → zEv l Xi mX10_skipBlanks d [.ref 1] I g (fun J => fT I J ∧ tX J bs L a a e) := fun h => by rw [← ha]; exact k_skip hl h hs ht
  by_cases hal : a < L
  · have hby : ∀ {J : zI}, tX J bs L a a e → J 2 a = nI (bs a) ∧ bs a < 256 := fun h => tX_by h (by omega)
    refine zJ_aload_n dX10_digitIsNext_0 rfl ?_
    refine zP_ecallVv [] _ lv_X10_34 (sk9 (d := d - 1) (by omega)) (zSt_ob hs 1 10 rfl) rfl (by omega) (Nat.le_of_ble_eq_true rfl) rfl dX10_digitIsNext_1 (fun J hJ => ?_)
    refine zJ_aload_n dX10_digitIsNext_4 rfl ?_
    refine zP_geti lf_X10_25 (zSt_ob hs 1 10 rfl) rfl dX10_digitIsNext_5 ?_
    refine zJ_aload_n dX10_digitIsNext_8 rfl ?_
    refine zP_geti lf_X10_22 (zSt_ob hs 1 10 rfl) rfl dX10_digitIsNext_9 ?_
    rw [tX_at hJ.2, tX_len hJ.2]
    refine zJ_icmp_ge 34 dX10_digitIsNext_12 (by decide) (fun c12 => absurd c12 (nI_ge (by omega) (by omega))) (fun _ => ?_)
    refine zJ_aload_n dX10_digitIsNext_15 rfl ?_
    refine zP_getr lf_X10_9 (zSt_ob hs 1 10 rfl) rfl (zSt_rf hs 1 0 2 rfl) dX10_digitIsNext_16 ?_
    refine zJ_aload_n dX10_digitIsNext_19 rfl ?_
    refine zP_geti lf_X10_25 (zSt_ob hs 1 10 rfl) rfl dX10_digitIsNext_20 ?_
    rw [tX_at hJ.2]
    refine zP_iald (zSt_ar hs 2 600 rfl) (by first | assumption | with_reducible exact vp_in_nI (by omega) (by omega) | (simp (disch := omega) only [nI_add, pk_mul, pk_sub, pk_div, pk_rem, nI_clamp]; with_reducible exact vp_in_nI (by omega) (by omega))) dX10_digitIsNext_23 ?_
    rw [nI_clamp (by omega), (hby hJ.2).1]
    refine zP_callSi [_] _ ls_X10_37 (k_X10_isDigit (d := d - 1) hl (by omega)) rfl (by omega) (Nat.le_of_ble_eq_true rfl) rfl dX10_digitIsNext_24 ?_
    rw [digB_eq (hby hJ.2).2]
    refine zJ_if_eq 34 dX10_digitIsNext_27 (by decide) (fun c27 => ?_) (fun c27 => ?_)
    · replace c27 := zb0.mp c27
      refine zJ_iconst (v := nI 0) dX10_digitIsNext_34 rfl ?_
      refine zJ_zret rfl (by decide) dX10_digitIsNext_35 ?_
      exact ⟨_, J, rfl, rfl, by rw [c27]; simp; rfl, hJ⟩
    · replace c27 := zb1.mp c27
      refine zJ_iconst (v := nI 1) dX10_digitIsNext_30 rfl ?_
      refine zJ_goto 35 dX10_digitIsNext_31 (by decide) ?_
      refine zJ_zret rfl (by decide) dX10_digitIsNext_35 ?_
      exact ⟨_, J, rfl, rfl, by rw [c27]; simp [hal]; rfl, hJ⟩
  · skip
    refine zJ_aload_n dX10_digitIsNext_0 rfl ?_
    refine zP_ecallVv [] _ lv_X10_34 (sk9 (d := d - 1) (by omega)) (zSt_ob hs 1 10 rfl) rfl (by omega) (Nat.le_of_ble_eq_true rfl) rfl dX10_digitIsNext_1 (fun J hJ => ?_)
    refine zJ_aload_n dX10_digitIsNext_4 rfl ?_
    refine zP_geti lf_X10_25 (zSt_ob hs 1 10 rfl) rfl dX10_digitIsNext_5 ?_
    refine zJ_aload_n dX10_digitIsNext_8 rfl ?_
    refine zP_geti lf_X10_22 (zSt_ob hs 1 10 rfl) rfl dX10_digitIsNext_9 ?_
    rw [tX_at hJ.2, tX_len hJ.2]
    refine zJ_icmp_ge 34 dX10_digitIsNext_12 (by decide) (fun _ => ?_) (fun c12 => absurd (nI_le (by omega) (by omega)) c12)
    refine zJ_iconst (v := nI 0) dX10_digitIsNext_34 rfl ?_
    refine zJ_zret rfl (by decide) dX10_digitIsNext_35 ?_
    exact ⟨_, J, rfl, rfl, by simp [hal]; rfl, hJ⟩
theorem k_takes (hl : l.stackTraces = false) (hd : 2 ≤ d) (hs : zSt g) {bs : Nat → Nat} {L A F c : Nat} {e : Option (Nat × Nat)} (ht : tX I bs L A F e) (hc : c < 256) : zEi l Xi mX10_takes d [.ref 1, .int (nI c)] I g (fun x J => x = (if hitB bs L (sk bs L A) c then 1 else 0) ∧ fT I J ∧ tX J bs L (if hitB bs L (sk bs L A) c then sk bs L A + 1 else sk bs L A) (sk bs L A) e) := by
  refine zC_of hl rfl rfl rfl (Nat.le_of_ble_eq_true rfl) (zav_r (zSt_ob hs 1 10 rfl).1 (zav_i zav_0)) ?_
  have hle := tX_le ht
  have hsk := sk_le (bs := bs) hle.1
  obtain ⟨a, ha⟩ : ∃ a, sk bs L A = a := ⟨_, rfl⟩
  rw [ha] at hsk ⊢
  have sk9 : ∀ {d : Nat}, 1 ≤ d → zEv l Xi mX10_skipBlanks d [.ref 1] I g (fun J => fT I J ∧ tX J bs L a a e) := fun h => by rw [← ha]; exact k_skip hl h hs ht
  by_cases hal : a < L
  · have hby : ∀ {J : zI}, tX J bs L a a e → J 2 a = nI (bs a) ∧ bs a < 256 := fun h => tX_by h (by omega)
    refine zJ_aload_n dX10_takes_0 rfl ?_
    refine zP_ecallVv [] _ lv_X10_34 (sk9 (d := d - 1) (by omega)) (zSt_ob hs 1 10 rfl) rfl (by omega) (Nat.le_of_ble_eq_true rfl) rfl dX10_takes_1 (fun J hJ => ?_)
    refine zJ_aload_n dX10_takes_4 rfl ?_
    refine zP_geti lf_X10_25 (zSt_ob hs 1 10 rfl) rfl dX10_takes_5 ?_
    refine zJ_aload_n dX10_takes_8 rfl ?_
    refine zP_geti lf_X10_22 (zSt_ob hs 1 10 rfl) rfl dX10_takes_9 ?_
    rw [tX_at hJ.2, tX_len hJ.2]
    refine zJ_icmp_ge 28 dX10_takes_12 (by decide) (fun c12 => absurd c12 (nI_ge (by omega) (by omega))) (fun _ => ?_)
    refine zJ_aload_n dX10_takes_15 rfl ?_
    refine zP_getr lf_X10_9 (zSt_ob hs 1 10 rfl) rfl (zSt_rf hs 1 0 2 rfl) dX10_takes_16 ?_
    refine zJ_aload_n dX10_takes_19 rfl ?_
    refine zP_geti lf_X10_25 (zSt_ob hs 1 10 rfl) rfl dX10_takes_20 ?_
    rw [tX_at hJ.2]
    refine zP_iald (zSt_ar hs 2 600 rfl) (by first | assumption | with_reducible exact vp_in_nI (by omega) (by omega) | (simp (disch := omega) only [nI_add, pk_mul, pk_sub, pk_div, pk_rem, nI_clamp]; with_reducible exact vp_in_nI (by omega) (by omega))) dX10_takes_23 ?_
    rw [nI_clamp (by omega), (hby hJ.2).1]
    refine zJ_iload_n dX10_takes_24 rfl ?_
    refine zJ_icmp_eq 30 dX10_takes_25 (by decide) (fun c25 => ?_) (fun c25 => ?_)
    · skip
      refine zJ_aload_n dX10_takes_30 rfl ?_
      refine zJ_dup dX10_takes_31 rfl ?_
      refine zP_geti lf_X10_25 (zSt_ob hs 1 10 rfl) rfl dX10_takes_32 ?_
      rw [tX_at hJ.2]
      refine zJ_iconst (v := nI 1) dX10_takes_35 rfl ?_
      refine zJ_iadd dX10_takes_36 ?_
      rw [nI_add]
      refine zP_puti lf_X10_25 (zSt_ob hs 1 10 rfl) rfl dX10_takes_37 ?_
      refine zJ_iconst (v := nI 1) dX10_takes_40 rfl ?_
      refine zJ_zret rfl (by decide) dX10_takes_41 ?_
      have hz : hitB bs L a c = true := by have := (nI_eq (by have := (hby hJ.2).2; omega) (by omega)).mp c25; simp [hitB, hal, this]
      rw [hz]
      exact ⟨_, _, rfl, rfl, rfl, fT_zup hJ.1, tX_sat hJ.2 (by omega) (by omega)⟩
    · skip
      refine zJ_iconst (v := nI 0) dX10_takes_28 rfl ?_
      refine zJ_zret rfl (by decide) dX10_takes_29 ?_
      have hz : hitB bs L a c = false := by simp only [hitB, hal, decide_true, Bool.true_and]; exact decide_eq_false (fun z => c25 (by rw [z]))
      rw [hz]
      exact ⟨_, J, rfl, rfl, rfl, hJ⟩
  · have hz : hitB bs L a c = false := by simp [hitB, hal]
    rw [hz]
    refine zJ_aload_n dX10_takes_0 rfl ?_
    refine zP_ecallVv [] _ lv_X10_34 (sk9 (d := d - 1) (by omega)) (zSt_ob hs 1 10 rfl) rfl (by omega) (Nat.le_of_ble_eq_true rfl) rfl dX10_takes_1 (fun J hJ => ?_)
    refine zJ_aload_n dX10_takes_4 rfl ?_
    refine zP_geti lf_X10_25 (zSt_ob hs 1 10 rfl) rfl dX10_takes_5 ?_
    refine zJ_aload_n dX10_takes_8 rfl ?_
    refine zP_geti lf_X10_22 (zSt_ob hs 1 10 rfl) rfl dX10_takes_9 ?_
    rw [tX_at hJ.2, tX_len hJ.2]
    refine zJ_icmp_ge 28 dX10_takes_12 (by decide) (fun _ => ?_) (fun c12 => absurd (nI_le (by omega) (by omega)) c12)
    refine zJ_iconst (v := nI 0) dX10_takes_28 rfl ?_
    refine zJ_zret rfl (by decide) dX10_takes_29 ?_
    exact ⟨_, J, rfl, rfl, rfl, hJ⟩
theorem k_need (hl : l.stackTraces = false) (hd : 2 ≤ d) (hs : zSt g) {bs : Nat → Nat} {L A F c : Nat} {e : Option (Nat × Nat)} (ht : tX I bs L A F e) (hc : c < 256) : zEv l Xi mX10_need d [.ref 1, .int (nI c)] I g (fun J => fT I J ∧ tX J bs L (if hitB bs L (sk bs L A) c then sk bs L A + 1 else sk bs L A) (sk bs L A) (if hitB bs L (sk bs L A) c then e else mg e (some (1, sk bs L A)))) := by
  refine zC_of hl rfl rfl rfl (Nat.le_of_ble_eq_true rfl) (zav_r (zSt_ob hs 1 10 rfl).1 (zav_i zav_0)) ?_
  have hle := tX_le ht
  have hsk := sk_le (bs := bs) hle.1
  obtain ⟨a, ha⟩ : ∃ a, sk bs L A = a := ⟨_, rfl⟩
  rw [ha] at hsk ⊢
  have sk9 : ∀ {d : Nat}, 1 ≤ d → zEv l Xi mX10_skipBlanks d [.ref 1] I g (fun J => fT I J ∧ tX J bs L a a e) := fun h => by rw [← ha]; exact k_skip hl h hs ht
  by_cases hal : a < L
  · have hby : ∀ {J : zI}, tX J bs L a a e → J 2 a = nI (bs a) ∧ bs a < 256 := fun h => tX_by h (by omega)
    refine zJ_aload_n dX10_need_0 rfl ?_
    refine zP_ecallVv [] _ lv_X10_34 (sk9 (d := d - 1) (by omega)) (zSt_ob hs 1 10 rfl) rfl (by omega) (Nat.le_of_ble_eq_true rfl) rfl dX10_need_1 (fun J hJ => ?_)
    refine zJ_aload_n dX10_need_4 rfl ?_
    refine zP_geti lf_X10_25 (zSt_ob hs 1 10 rfl) rfl dX10_need_5 ?_
    refine zJ_aload_n dX10_need_8 rfl ?_
    refine zP_geti lf_X10_22 (zSt_ob hs 1 10 rfl) rfl dX10_need_9 ?_
    rw [tX_at hJ.2, tX_len hJ.2]
    refine zJ_icmp_ge 41 dX10_need_12 (by decide) (fun c12 => absurd c12 (nI_ge (by omega) (by omega))) (fun _ => ?_)
    refine zJ_aload_n dX10_need_15 rfl ?_
    refine zP_getr lf_X10_9 (zSt_ob hs 1 10 rfl) rfl (zSt_rf hs 1 0 2 rfl) dX10_need_16 ?_
    refine zJ_aload_n dX10_need_19 rfl ?_
    refine zP_geti lf_X10_25 (zSt_ob hs 1 10 rfl) rfl dX10_need_20 ?_
    rw [tX_at hJ.2]
    refine zP_iald (zSt_ar hs 2 600 rfl) (by first | assumption | with_reducible exact vp_in_nI (by omega) (by omega) | (simp (disch := omega) only [nI_add, pk_mul, pk_sub, pk_div, pk_rem, nI_clamp]; with_reducible exact vp_in_nI (by omega) (by omega))) dX10_need_23 ?_
    rw [nI_clamp (by omega), (hby hJ.2).1]
    refine zJ_iload_n dX10_need_24 rfl ?_
    refine zJ_icmp_ne 41 dX10_need_25 (by decide) (fun c25 => ?_) (fun c25 => ?_)
    · skip
      refine zJ_aload_n dX10_need_41 rfl ?_
      refine zJ_iconst (v := nI 1) dX10_need_42 rfl ?_
      refine zJ_aload_n dX10_need_43 rfl ?_
      refine zP_geti lf_X10_25 (zSt_ob hs 1 10 rfl) rfl dX10_need_44 ?_
      refine zP_ecallVv [_, _] _ lv_X10_41 (k_fail (d := d - 1) hl (by omega) hs hJ.2 (by omega) (by omega) (tX_at hJ.2)) (zSt_ob hs 1 10 rfl) rfl (by omega) (Nat.le_of_ble_eq_true rfl) rfl dX10_need_47 (fun J2 hJ2 => ?_)
      refine zJ_vret rfl dX10_need_50 ?_
      have hz : hitB bs L a c = false := by simp only [hitB, hal, decide_true, Bool.true_and]; exact decide_eq_false (fun z => c25 (by rw [z]))
      rw [hz]
      exact ⟨rfl, J2, rfl, fT_trans hJ.1 hJ2.1, hJ2.2⟩
    · skip
      refine zJ_aload_n dX10_need_28 rfl ?_
      refine zJ_dup dX10_need_29 rfl ?_
      refine zP_geti lf_X10_25 (zSt_ob hs 1 10 rfl) rfl dX10_need_30 ?_
      rw [tX_at hJ.2]
      refine zJ_iconst (v := nI 1) dX10_need_33 rfl ?_
      refine zJ_iadd dX10_need_34 ?_
      rw [nI_add]
      refine zP_puti lf_X10_25 (zSt_ob hs 1 10 rfl) rfl dX10_need_35 ?_
      refine zJ_goto 50 dX10_need_38 (by decide) ?_
      refine zJ_vret rfl dX10_need_50 ?_
      have hz : hitB bs L a c = true := by have := (nI_eq (by have := (hby hJ.2).2; omega) (by omega)).mp c25; simp [hitB, hal, this]
      rw [hz]
      exact ⟨rfl, _, rfl, fT_zup hJ.1, tX_sat hJ.2 (by omega) (by omega)⟩
  · have hz : hitB bs L a c = false := by simp [hitB, hal]
    rw [hz]
    refine zJ_aload_n dX10_need_0 rfl ?_
    refine zP_ecallVv [] _ lv_X10_34 (sk9 (d := d - 1) (by omega)) (zSt_ob hs 1 10 rfl) rfl (by omega) (Nat.le_of_ble_eq_true rfl) rfl dX10_need_1 (fun J hJ => ?_)
    refine zJ_aload_n dX10_need_4 rfl ?_
    refine zP_geti lf_X10_25 (zSt_ob hs 1 10 rfl) rfl dX10_need_5 ?_
    refine zJ_aload_n dX10_need_8 rfl ?_
    refine zP_geti lf_X10_22 (zSt_ob hs 1 10 rfl) rfl dX10_need_9 ?_
    rw [tX_at hJ.2, tX_len hJ.2]
    refine zJ_icmp_ge 41 dX10_need_12 (by decide) (fun _ => ?_) (fun c12 => absurd (nI_le (by omega) (by omega)) c12)
    refine zJ_aload_n dX10_need_41 rfl ?_
    refine zJ_iconst (v := nI 1) dX10_need_42 rfl ?_
    refine zJ_aload_n dX10_need_43 rfl ?_
    refine zP_geti lf_X10_25 (zSt_ob hs 1 10 rfl) rfl dX10_need_44 ?_
    refine zP_ecallVv [_, _] _ lv_X10_41 (k_fail (d := d - 1) hl (by omega) hs hJ.2 (by omega) (by omega) (tX_at hJ.2)) (zSt_ob hs 1 10 rfl) rfl (by omega) (Nat.le_of_ble_eq_true rfl) rfl dX10_need_47 (fun J2 hJ2 => ?_)
    refine zJ_vret rfl dX10_need_50 ?_
    exact ⟨rfl, J2, rfl, fT_trans hJ.1 hJ2.1, hJ2.2⟩
end ZText2
