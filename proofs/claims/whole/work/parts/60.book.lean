/-! ===== Book; copies of states ===== -/
section ZBook
variable {l : Launch} {Xi : zXi} {d : Nat} {I : zI} {g : zG}
def zBk (I : zI) (c kl : Nat) (kp kw : Nat → Nat) : Prop := I c 0 = nI kl ∧ kl ≤ 8 ∧ ∀ i, i < kl → I (c + 1) i = nI (kp i) ∧ kp i < 64 ∧ I (c + 2) i = nI (kw i) ∧ kw i ≤ 6
theorem k_X1_forget (hl : l.stackTraces = false) (hd : 1 ≤ d) {c : Nat} (hc : zK g c 1 zLt_Book) : zD l Xi mX1_forget d [.ref c] I g none (zup I c 0 (nI 0)) := by
  refine zC_of hl rfl rfl rfl (Nat.le_of_ble_eq_true rfl) (zav_r hc.1.1 zav_0) ?_
  refine zJ_aload_n dX1_forget_0 rfl ?_
  refine zJ_iconst (v := nI 0) dX1_forget_1 rfl ?_
  refine zP_puti lf_X1_18 hc.1 rfl dX1_forget_2 ?_
  refine zJ_vret rfl dX1_forget_5 ?_
  exact ⟨rfl, rfl⟩
def f_copyK (I : zI) (c e : Nat) : zI := cpRow (cpRow (zup I c 0 (I e 0)) (c + 1) (e + 1) 8) (c + 2) (e + 2) 8
theorem k_X1_copyFrom (hl : l.stackTraces = false) (hd : 2 ≤ d) {c e : Nat} (hc : zK g c 1 zLt_Book) (he : zK g e 1 zLt_Book) : zD l Xi mX1_copyFrom d [.ref c, .ref e] I g none (f_copyK I c e) := by
  refine zC_of hl rfl rfl rfl (Nat.le_of_ble_eq_true rfl) (zav_r hc.1.1 (zav_r he.1.1 zav_0)) ?_
  refine zJ_aload_n dX1_copyFrom_0 rfl ?_
  refine zJ_aload_n dX1_copyFrom_1 rfl ?_
  refine zP_geti lf_X1_18 he.1 rfl dX1_copyFrom_2 ?_
  refine zP_puti lf_X1_18 hc.1 rfl dX1_copyFrom_5 ?_
  refine zJ_aload_n dX1_copyFrom_8 rfl ?_
  refine zP_getr lf_X1_9 he.1 rfl (zK_rf he 0 1 1 8 rfl) dX1_copyFrom_9 ?_
  refine zJ_iconst (v := nI 0) dX1_copyFrom_12 rfl ?_
  refine zJ_aload_n dX1_copyFrom_13 rfl ?_
  refine zP_getr lf_X1_9 hc.1 rfl (zK_rf hc 0 1 1 8 rfl) dX1_copyFrom_14 ?_
  refine zJ_iconst (v := nI 0) dX1_copyFrom_17 rfl ?_
  refine zJ_bipush (v := nI 8) dX1_copyFrom_18 rfl ?_
  refine zP_copy lc_X1_22 (zK_ar he 0 1 1 8 rfl) (zK_ar hc 0 1 1 8 rfl) (sp := 0) (dp := 0) (n := 8) rfl rfl rfl (by decide) (by decide) (by decide) (Nat.le_of_ble_eq_true rfl) (by omega) dX1_copyFrom_20 ?_
  refine zJ_aload_n dX1_copyFrom_23 rfl ?_
  refine zP_getr lf_X1_15 he.1 rfl (zK_rf he 1 2 2 8 rfl) dX1_copyFrom_24 ?_
  refine zJ_iconst (v := nI 0) dX1_copyFrom_27 rfl ?_
  refine zJ_aload_n dX1_copyFrom_28 rfl ?_
  refine zP_getr lf_X1_15 hc.1 rfl (zK_rf hc 1 2 2 8 rfl) dX1_copyFrom_29 ?_
  refine zJ_iconst (v := nI 0) dX1_copyFrom_32 rfl ?_
  refine zJ_bipush (v := nI 8) dX1_copyFrom_33 rfl ?_
  refine zP_copy lc_X1_22 (zK_ar he 1 2 2 8 rfl) (zK_ar hc 1 2 2 8 rfl) (sp := 0) (dp := 0) (n := 8) rfl rfl rfl (by decide) (by decide) (by decide) (Nat.le_of_ble_eq_true rfl) (by omega) dX1_copyFrom_35 ?_
  refine zJ_vret rfl dX1_copyFrom_38 ?_
  exact ⟨rfl, rfl⟩
theorem k_X1_hasLineAt (hl : l.stackTraces = false) (hd : 1 ≤ d) {c kl q : Nat} {kp kw : Nat → Nat} (hc : zK g c 1 zLt_Book) (hk : zBk I c kl kp kw) (hq : q < 2 ^ 30) : zD l Xi mX1_hasLineAt d [.ref c, .int (nI q)] I g (some (.int (if anyB (fun i => decide (kp i = q)) kl then 1 else 0))) I := by
  refine zC_of hl rfl rfl rfl (Nat.le_of_ble_eq_true rfl) (zav_r hc.1.1 (zav_i zav_0)) ?_
  obtain ⟨h0, h8, hk⟩ := hk
  have loop : ∀ m p, p + m = kl → (anyB (fun i => decide (kp i = q)) p = false) → zJ l Xi mX1_hasLineAt d 0 0 2 [some (.ref c), some (.int (nI q)), some (.int (nI p))] [] (I, g) (fun r' h' => r' = .inl (some (.int (if anyB (fun i => decide (kp i = q)) kl then 1 else 0))) ∧ h' = (I, g)) := by
    intro m
    induction m with
    | zero =>
      intro p hp hI
      obtain rfl : p = kl := by omega
      refine zJ_iload_n dX1_hasLineAt_2 rfl ?_
      refine zJ_aload_n dX1_hasLineAt_3 rfl ?_
      refine zP_geti lf_X1_18 hc.1 rfl dX1_hasLineAt_4 ?_
      refine zJ_icmp_ge 28 dX1_hasLineAt_7 (by decide) (fun _ => ?_) (fun c7 => absurd (by rw [h0]; exact nI_le (by omega) (by omega)) c7)
      refine zJ_iconst (v := nI 0) dX1_hasLineAt_28 rfl ?_
      refine zJ_zret rfl (by decide) dX1_hasLineAt_29 ?_
      rw [hI]; exact ⟨rfl, rfl⟩
    | succ m ih =>
      intro p hp hI
      have hkp := hk p (by omega)
      refine zJ_iload_n dX1_hasLineAt_2 rfl ?_
      refine zJ_aload_n dX1_hasLineAt_3 rfl ?_
      refine zP_geti lf_X1_18 hc.1 rfl dX1_hasLineAt_4 ?_
      refine zJ_icmp_ge 28 dX1_hasLineAt_7 (by decide) (fun c7 => absurd c7 (by rw [h0]; exact nI_ge (by omega) (by omega))) (fun _ => ?_)
      refine zJ_aload_n dX1_hasLineAt_10 rfl ?_
      refine zP_getr lf_X1_9 hc.1 rfl (zK_rf hc 0 1 1 8 rfl) dX1_hasLineAt_11 ?_
      refine zJ_iload_n dX1_hasLineAt_14 rfl ?_
      refine zP_iald (zK_ar hc 0 1 1 8 rfl) (by first | assumption | with_reducible exact vp_in_nI (by omega) (by omega) | (simp (disch := omega) only [nI_add, pk_mul, pk_sub, pk_div, pk_rem, nI_clamp]; with_reducible exact vp_in_nI (by omega) (by omega))) dX1_hasLineAt_15 ?_
      rw [nI_clamp (by omega), hkp.1]
      refine zJ_iload_n dX1_hasLineAt_16 rfl ?_
      refine zJ_icmp_ne 22 dX1_hasLineAt_17 (by decide) (fun c17 => ?_) (fun c17 => ?_)
      · skip
        refine zJ_iinc1 dX1_hasLineAt_22 rfl (by decide) ?_
        refine zJ_goto 2 dX1_hasLineAt_25 (by decide) ?_
        refine ih (p + 1) (by omega) ?_
        simp only [anyB, hI, Bool.false_or]
        exact decide_eq_false (fun z => c17 (by rw [z]))
      · skip
        refine zJ_iconst (v := nI 1) dX1_hasLineAt_20 rfl ?_
        refine zJ_zret rfl (by decide) dX1_hasLineAt_21 ?_
        have e : kp p = q := (nI_eq (by omega) (by omega)).mp c17
        rw [show anyB (fun i => decide (kp i = q)) kl = true from anyB_iff.mpr ⟨p, by omega, decide_eq_true e⟩]
        exact ⟨rfl, rfl⟩
  refine zJ_iconst (v := nI 0) dX1_hasLineAt_0 rfl ?_
  refine zJ_istore_m 2 dX1_hasLineAt_1 rfl (Nat.le_of_ble_eq_true rfl) (by decide) ?_
  exact loop kl 0 (by omega) rfl
theorem k_X1_isRightBy (hl : l.stackTraces = false) (hd : 1 ≤ d) {c kl a : Nat} {kp kw : Nat → Nat} (hc : zK g c 1 zLt_Book) (ha : zAr g a 64) (hk : zBk I c kl kp kw) : zD l Xi mX1_isRightBy d [.ref c, .ref a] I g (some (.int (if allB (fun i => decide (I a (kp i) = nI (kw i))) kl then 1 else 0))) I := by
  refine zC_of hl rfl rfl rfl (Nat.le_of_ble_eq_true rfl) (zav_r hc.1.1 (zav_r ha.1 zav_0)) ?_
  obtain ⟨h0, h8, hk⟩ := hk
  have loop : ∀ m p, p + m = kl → (allB (fun i => decide (I a (kp i) = nI (kw i))) p = true) → zJ l Xi mX1_isRightBy d 0 0 2 [some (.ref c), some (.ref a), some (.int (nI p))] [] (I, g) (fun r' h' => r' = .inl (some (.int (if allB (fun i => decide (I a (kp i) = nI (kw i))) kl then 1 else 0))) ∧ h' = (I, g)) := by
    intro m
    induction m with
    | zero =>
      intro p hp hI
      obtain rfl : p = kl := by omega
      refine zJ_iload_n dX1_isRightBy_2 rfl ?_
      refine zJ_aload_n dX1_isRightBy_3 rfl ?_
      refine zP_geti lf_X1_18 hc.1 rfl dX1_isRightBy_4 ?_
      refine zJ_icmp_ge 35 dX1_isRightBy_7 (by decide) (fun _ => ?_) (fun c7 => absurd (by rw [h0]; exact nI_le (by omega) (by omega)) c7)
      refine zJ_iconst (v := nI 1) dX1_isRightBy_35 rfl ?_
      refine zJ_zret rfl (by decide) dX1_isRightBy_36 ?_
      rw [hI]; exact ⟨rfl, rfl⟩
    | succ m ih =>
      intro p hp hI
      have hkp := hk p (by omega)
      refine zJ_iload_n dX1_isRightBy_2 rfl ?_
      refine zJ_aload_n dX1_isRightBy_3 rfl ?_
      refine zP_geti lf_X1_18 hc.1 rfl dX1_isRightBy_4 ?_
      refine zJ_icmp_ge 35 dX1_isRightBy_7 (by decide) (fun c7 => absurd c7 (by rw [h0]; exact nI_ge (by omega) (by omega))) (fun _ => ?_)
      refine zJ_aload_n dX1_isRightBy_10 rfl ?_
      refine zJ_aload_n dX1_isRightBy_11 rfl ?_
      refine zP_getr lf_X1_9 hc.1 rfl (zK_rf hc 0 1 1 8 rfl) dX1_isRightBy_12 ?_
      refine zJ_iload_n dX1_isRightBy_15 rfl ?_
      refine zP_iald (zK_ar hc 0 1 1 8 rfl) (by first | assumption | with_reducible exact vp_in_nI (by omega) (by omega) | (simp (disch := omega) only [nI_add, pk_mul, pk_sub, pk_div, pk_rem, nI_clamp]; with_reducible exact vp_in_nI (by omega) (by omega))) dX1_isRightBy_16 ?_
      rw [nI_clamp (by omega), hkp.1]
      refine zP_iald ha (by first | assumption | with_reducible exact vp_in_nI (by omega) (by omega) | (simp (disch := omega) only [nI_add, pk_mul, pk_sub, pk_div, pk_rem, nI_clamp]; with_reducible exact vp_in_nI (by omega) (by omega))) dX1_isRightBy_17 ?_
      refine zJ_aload_n dX1_isRightBy_18 rfl ?_
      refine zP_getr lf_X1_15 hc.1 rfl (zK_rf hc 1 2 2 8 rfl) dX1_isRightBy_19 ?_
      refine zJ_iload_n dX1_isRightBy_22 rfl ?_
      refine zP_iald (zK_ar hc 1 2 2 8 rfl) (by first | assumption | with_reducible exact vp_in_nI (by omega) (by omega) | (simp (disch := omega) only [nI_add, pk_mul, pk_sub, pk_div, pk_rem, nI_clamp]; with_reducible exact vp_in_nI (by omega) (by omega))) dX1_isRightBy_23 ?_
      rw [nI_clamp (by omega), nI_clamp (by omega), hkp.2.2.1]
      refine zJ_icmp_eq 29 dX1_isRightBy_24 (by decide) (fun c24 => ?_) (fun c24 => ?_)
      · skip
        refine zJ_iinc1 dX1_isRightBy_29 rfl (by decide) ?_
        refine zJ_goto 2 dX1_isRightBy_32 (by decide) ?_
        refine ih (p + 1) (by omega) ?_
        simp only [allB, hI, Bool.true_and]
        exact decide_eq_true c24
      · skip
        refine zJ_iconst (v := nI 0) dX1_isRightBy_27 rfl ?_
        refine zJ_zret rfl (by decide) dX1_isRightBy_28 ?_
        rw [allB_no (f := fun i => decide (I a (kp i) = nI (kw i))) (show p < kl by omega) (decide_eq_false c24)]
        exact ⟨rfl, rfl⟩
  refine zJ_iconst (v := nI 0) dX1_isRightBy_0 rfl ?_
  refine zJ_istore_m 2 dX1_isRightBy_1 rfl (Nat.le_of_ble_eq_true rfl) (by decide) ?_
  exact loop kl 0 (by omega) rfl
theorem cpRow_ne {a b n x : Nat} (h : x ≠ b) : cpRow I b a n x = I x := va_up_row h
theorem cpRow_at {a b n k : Nat} (hk : k < n) : cpRow I b a n b k = I a k := by
  unfold cpRow va_cpy
  rw [va_up_same, if_pos ⟨Nat.zero_le _, by omega⟩]
  simp
theorem copyS_ne {s t x : Nat} (h : x < s ∨ s + 5 < x) : f_copyS I s t x = I x := by
  unfold f_copyS
  rw [zup_row (by omega), cpRow_ne (by omega), cpRow_ne (by omega), cpRow_ne (by omega), cpRow_ne (by omega), cpRow_ne (by omega)]
theorem copyS_row {s t : Nat} {R : Nat → Int32} (hd : s + 5 < t ∨ t + 5 < s) (hR : zRow I t R) : zRow (f_copyS I s t) s R := by
  obtain ⟨h1, h2, h3, h4, h5, h6⟩ := hR
  have hdef : f_copyS I s t = zup (cpRow (cpRow (cpRow (cpRow (cpRow I (s + 1) (t + 1) 384) (s + 2) (t + 2) 64) (s + 3) (t + 3) 64) (s + 4) (t + 4) 64) (s + 5) (t + 5) 6) s 5 ((cpRow (cpRow (cpRow (cpRow (cpRow I (s + 1) (t + 1) 384) (s + 2) (t + 2) 64) (s + 3) (t + 3) 64) (s + 4) (t + 4) 64) (s + 5) (t + 5) 6) t 5) := rfl
  rw [hdef]
  refine ⟨fun k hk => ?_, fun q hq => ?_, fun q hq => ?_, fun q hq => ?_, fun m hm => ?_, ?_⟩
  · rw [zup_row (by omega), cpRow_ne (by omega), cpRow_ne (by omega), cpRow_ne (by omega), cpRow_ne (by omega), cpRow_at (by omega)]; exact h1 k hk
  · rw [zup_row (by omega), cpRow_ne (by omega), cpRow_ne (by omega), cpRow_ne (by omega), cpRow_at (by omega), cpRow_ne (by omega)]; exact h2 q hq
  · rw [zup_row (by omega), cpRow_ne (by omega), cpRow_ne (by omega), cpRow_at (by omega), cpRow_ne (by omega), cpRow_ne (by omega)]; exact h3 q hq
  · rw [zup_row (by omega), cpRow_ne (by omega), cpRow_at (by omega), cpRow_ne (by omega), cpRow_ne (by omega), cpRow_ne (by omega)]; exact h4 q hq
  · rw [zup_row (by omega), cpRow_at (by omega), cpRow_ne (by omega), cpRow_ne (by omega), cpRow_ne (by omega), cpRow_ne (by omega)]; exact h5 m hm
  · rw [zup_same, upd_at, cpRow_ne (by omega), cpRow_ne (by omega), cpRow_ne (by omega), cpRow_ne (by omega), cpRow_ne (by omega)]; exact h6
/-- all but the class's scratch things and the state t -/
def fZ (t : Nat) (I J : zI) : Prop := ∀ a, a ≠ 22 → a ≠ 24 → a ≠ 42 → (a < 44 ∨ 56 < a) → (a < t ∨ t + 5 < a) → J a = I a
theorem fZ_rfl {t : Nat} : fZ t I I := fun _ _ _ _ _ _ => rfl
theorem fZ_trans {t : Nat} {J K : zI} (h : fZ t I J) (h2 : fZ t J K) : fZ t I K := fun a q1 q2 q3 q4 q5 => (h2 a q1 q2 q3 q4 q5).trans (h a q1 q2 q3 q4 q5)
theorem fZ_fX {t : Nat} {J : zI} (h : fX t I J) : fZ t I J := fun a q1 q2 q3 q4 q5 => h a q1 q2 q3 (by omega) (by omega) (by omega) (by omega) (by omega) q5
theorem fZ_sbJ {t : Nat} {J : zI} (h : sbJ I J) : fZ t I J := fun a q1 q2 q3 q4 q5 => h a (by omega) (by omega) (by omega)
theorem fZ_up {t a : Nat} {J : zI} {f : Nat → Int32} (h : fZ t I J) (ha : a = 22 ∨ a = 24 ∨ a = 42 ∨ (44 ≤ a ∧ a ≤ 56) ∨ (t ≤ a ∧ a ≤ t + 5)) : fZ t I (va_up J a f) := fun x q1 q2 q3 q4 q5 => (va_up_row (by omega)).trans (h x q1 q2 q3 q4 q5)
theorem fZ_zup {t a k : Nat} {x : Int32} {J : zI} (h : fZ t I J) (ha : a = 22 ∨ a = 24 ∨ a = 42 ∨ (44 ≤ a ∧ a ≤ 56) ∨ (t ≤ a ∧ a ≤ t + 5)) : fZ t I (zup J a k x) := fZ_up h ha
theorem fZ_copyS {s t : Nat} {J : zI} (h : fZ t I J) : fZ t I (f_copyS J t s) := fun a q1 q2 q3 q4 q5 => (copyS_ne q5).trans (h a q1 q2 q3 q4 q5)
theorem zWi_fZ {s : Nat} {J : zI} {b : zWo} (hs : 60 < s) (h : zWi I b) (hf : fZ s I J) : zWi J b := by
  have e : ∀ a, a < 22 ∨ a = 23 → J a = I a := fun a ha => hf a (by omega) (by omega) (by omega) (by omega) (by omega)
  unfold zWi zBd at *
  rw [e 3 (by omega), e (3 + 3) (by omega), e (3 + 4) (by omega), e 5 (by omega), e 9 (by omega), e 8 (by omega), e 11 (by omega), e 21 (by omega), e 23 (by omega)]
  exact h
theorem zRow_fZ {s t : Nat} {J : zI} {R : Nat → Int32} (hs : 60 < s) (hd : s + 5 < t ∨ t + 5 < s) (h : zRow I s R) (hf : fZ t I J) : zRow J s R := zRow_of h (fun a q1 q2 => hf a (by omega) (by omega) (by omega) (by omega) (by omega))
theorem zBk_fZ {t kl : Nat} {J : zI} {kp kw : Nat → Nat} (ht : 60 < t) (h : zBk I 29 kl kp kw) (hf : fZ t I J) : zBk J 29 kl kp kw := by
  have e : ∀ a, 29 ≤ a → a ≤ 31 → J a = I a := fun a h1 h2 => hf a (by omega) (by omega) (by omega) (by omega) (by omega)
  unfold zBk at *
  rw [e 29 (by omega) (by omega), e (29 + 1) (by omega) (by omega), e (29 + 2) (by omega) (by omega)]
  exact h
end ZBook
