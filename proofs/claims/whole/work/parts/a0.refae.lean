/-! ===== the reference: words ===== -/
section ZRefAE
variable {l : Launch} {Xi : zXi} {d : Nat} {I : zI} {g : zG}
def cdW (w : Nat → Nat) : Nat → Nat
  | 0 => 0
  | n + 1 => 27 * cdW w n + w n
theorem cdW_lt {w : Nat → Nat} : ∀ {n : Nat}, (∀ k, k < n → w k ≤ 26) → cdW w n < 27 ^ n
  | 0, _ => Nat.one_pos
  | n + 1, h => by
    have ih := cdW_lt (w := w) (n := n) (fun k hk => h k (by omega))
    have h1 := h n (by omega)
    show 27 * cdW w n + w n < 27 ^ n * 27
    omega
theorem cdW_inj {w w' : Nat → Nat} : ∀ {n m : Nat}, (∀ k, k < n → 1 ≤ w k ∧ w k ≤ 26) → (∀ k, k < m → 1 ≤ w' k ∧ w' k ≤ 26) → cdW w n = cdW w' m → n = m ∧ ∀ k, k < n → w k = w' k
  | 0, 0, _, _, _ => ⟨rfl, fun k hk => absurd hk (Nat.not_lt_zero _)⟩
  | 0, m + 1, _, h2, e => by
    have h3 := h2 m (by omega)
    have e2 : 0 = 27 * cdW w' m + w' m := e
    omega
  | n + 1, 0, h1, _, e => by
    have h3 := h1 n (by omega)
    have e2 : 27 * cdW w n + w n = 0 := e
    omega
  | n + 1, m + 1, h1, h2, e => by
    have h3 := h1 n (by omega)
    have h4 := h2 m (by omega)
    have e2 : 27 * cdW w n + w n = 27 * cdW w' m + w' m := e
    obtain ⟨a1, a2⟩ := cdW_inj (n := n) (m := m) (fun k hk => h1 k (by omega)) (fun k hk => h2 k (by omega)) (by omega)
    subst a1
    refine ⟨rfl, fun k hk => ?_⟩
    by_cases z : k = n
    · rw [z]; omega
    · exact a2 k (by omega)
theorem cdW_congr {w w' : Nat → Nat} : ∀ {n : Nat}, (∀ k, k < n → w k = w' k) → cdW w n = cdW w' n
  | 0, _ => rfl
  | n + 1, h => by
    show 27 * cdW w n + w n = 27 * cdW w' n + w' n
    rw [cdW_congr (n := n) (fun k hk => h k (by omega)), h n (by omega)]
def zwd (i k : Nat) : Nat := ((zbyt.getD i []).getD k 0).toNatClampNeg - 96
def zln (i : Nat) : Nat := (zbyt.getD i []).length
def codZ (i : Nat) : Nat := cdW (zwd i) (zln i)
theorem zw_ok : ∀ i, i < 20 → zln i ≤ 6 ∧ ∀ k, k < zln i → (zbyt.getD i []).getD k 0 = nI (zwd i k + 96) ∧ 1 ≤ zwd i k ∧ zwd i k ≤ 26 := by decide +kernel
theorem codZ_lt {i : Nat} (hi : i < 20) : codZ i < 27 ^ 6 := Nat.lt_of_lt_of_le (cdW_lt (fun k hk => ((zw_ok i hi).2 k hk).2.2)) (Nat.pow_le_pow_right (by decide) (zw_ok i hi).1)
theorem sp_P {P : Nat → Bool} {L : Nat} : ∀ {m a k : Nat}, a ≤ k → k < spF P L m a → P k = true
  | 0, a, k, h1, h2 => by simp only [spF] at h2; omega
  | m + 1, a, k, h1, h2 => by
    simp only [spF] at h2
    split at h2
    · next z =>
      rw [Bool.and_eq_true] at z
      by_cases q : k = a
      · rw [q]; exact z.2
      · exact sp_P (by omega) h2
    · omega
def wcN (bs : Nat → Nat) (F n : Nat) : Nat := cdW (fun k => bs (F + k) - 96) n
def wrI (bs : Nat → Nat) (F n : Nat) : Int32 := if 6 < n then -1 else nI (wcN bs F n)
theorem wd_code {bs : Nat → Nat} {F W i : Nat} (hi : i < 20) (hF : F ≤ W) (hb : ∀ k, k < W - F → 97 ≤ bs (F + k) ∧ bs (F + k) ≤ 122) : decide (wrI bs F (W - F) = nI (codZ i)) = wdB bs F W i := by
  obtain ⟨z1, z2⟩ := zw_ok i hi
  have hcl := codZ_lt hi
  unfold wdB
  have hl : (zbyt.getD i []).length = zln i := rfl
  rw [hl]
  by_cases hw : W - F = zln i
  · rw [decide_eq_true hw, Bool.true_and]
    have e1 : wrI bs F (W - F) = nI (wcN bs F (W - F)) := if_neg (by omega)
    have hlt : wcN bs F (W - F) < 27 ^ 6 := Nat.lt_of_lt_of_le (cdW_lt (fun k hk => by have := hb k hk; show bs (F + k) - 96 ≤ 26; omega)) (Nat.pow_le_pow_right (by decide) (by omega))
    rw [e1]
    by_cases hq : wcN bs F (W - F) = codZ i
    · rw [hq, decide_eq_true rfl]
      have h9 := (cdW_inj (w := fun k => bs (F + k) - 96) (w' := zwd i) (fun k hk => by have := hb k hk; show 1 ≤ bs (F + k) - 96 ∧ bs (F + k) - 96 ≤ 26; omega) (fun k hk => (z2 k hk).2) hq).2
      refine (allB_iff.mpr (fun k hk => decide_eq_true ?_)).symm
      have h8 := hb k (by omega)
      have h7 : bs (F + k) - 96 = zwd i k := h9 k (by omega)
      rw [(z2 k hk).1]
      congr 1; omega
    · rw [decide_eq_false (fun z => hq ((nI_eq (by omega) (by omega)).mp z))]
      cases hall : allB (fun k => decide (nI (bs (F + k)) = (zbyt.getD i []).getD k 0)) (zln i) with
      | false => rfl
      | true =>
        exfalso
        apply hq
        unfold wcN codZ
        rw [hw]
        refine cdW_congr (fun k hk => ?_)
        have h8 := of_decide_eq_true (allB_iff.mp hall k hk)
        have h7 := hb k (by omega)
        rw [(z2 k hk).1, nI_eq (by omega) (by have := (z2 k hk).2.2; omega)] at h8
        show bs (F + k) - 96 = zwd i k
        omega
  · rw [decide_eq_false hw, Bool.false_and]
    refine decide_eq_false (fun z => ?_)
    unfold wrI at z
    split at z
    · exact absurd z.symm (nI_ne1 (by omega))
    · next h6 =>
      have hlt : wcN bs F (W - F) < 27 ^ 6 := Nat.lt_of_lt_of_le (cdW_lt (fun k hk => by have := hb k hk; show bs (F + k) - 96 ≤ 26; omega)) (Nat.pow_le_pow_right (by decide) (by omega))
      have hq : wcN bs F (W - F) = codZ i := (nI_eq (by omega) (by omega)).mp z
      exact hw (cdW_inj (w := fun k => bs (F + k) - 96) (w' := zwd i) (fun k hk => by have := hb k hk; show 1 ≤ bs (F + k) - 96 ∧ bs (F + k) - 96 ≤ 26; omega) (fun k hk => (z2 k hk).2) hq).1
theorem m_wordHere (hl : l.stackTraces = false) (hd : 3 ≤ d) (hs : zSt g) {bs : Nat → Nat} {L A F W : Nat} {e : Option (Nat × Nat)} (h : rz I bs L A e) (hF : sk bs L A = F) (hW : sp (ltB bs) L F = W) : zEi l Xi mX13_wordHere d [.ref 74] I g (fun v J => v = wrI bs F (W - F) ∧ ft I J ∧ rz J bs L F e) := by
  refine zC_of hl rfl rfl rfl (Nat.le_of_ble_eq_true rfl) (zav_r (zSt_ob hs 74 13 rfl).1 zav_0) ?_
  have hL := h.2.1
  have hFL : F ≤ L := by rw [← hF]; exact sp_l h.2.2.2.1
  have hWL : W ≤ L := by rw [← hW]; exact sp_l hFL
  have hFW : F ≤ W := by rw [← hW]; exact sp_g
  have hlt : ∀ k, F ≤ k → k < W → ltB bs k = true := fun k h1 h2 => by rw [← hW] at h2; exact sp_P h1 h2
  have hno : ¬ (W < L ∧ ltB bs W = true) := fun q => by
    have h1 := sk_st (P := ltB bs) q.1 q.2
    have h2 : W + 1 ≤ sp (ltB bs) L (W + 1) := sp_g
    have h3 : sp (ltB bs) L W = W := by rw [← hW]; exact sp_sp
    omega
  have loop : ∀ m n (J : zI), n + m = W - F → ft I J → rz J bs L F e → zJ l Xi mX13_wordHere d 0 0 8 [some (.ref 74), some (.int (nI (wcN bs F (min n 6)))), some (.int (nI n))] [] (J, g) (fun r' h' => ∃ x I', r' = .inl (some (.int x)) ∧ h' = (I', g) ∧ x = wrI bs F (W - F) ∧ ft I I' ∧ rz I' bs L F e) := by
    intro m
    induction m with
    | zero =>
      intro n J hn hf hz
      have hn2 : F + n = W := by omega
      have hdf : (decide (F + n < L) && (decide (97 ≤ bs (F + n)) && decide (bs (F + n) ≤ 122))) = false := by
        cases q : decide (F + n < L) && (decide (97 ≤ bs (F + n)) && decide (bs (F + n) ≤ 122)) with
        | false => rfl
        | true =>
          rw [Bool.and_eq_true, decide_eq_true_iff, hn2] at q
          exact absurd ⟨q.1, q.2⟩ hno
      unfold wrI
      by_cases h6 : 6 < W - F
      · rw [if_pos h6]
        refine zJ_aload_n dX13_wordHere_8 rfl ?_
        refine zJ_aload_n dX13_wordHere_9 rfl ?_
        refine zP_geti lf_X13_116 (zSt_ob hs 74 13 rfl) rfl dX13_wordHere_10 ?_
        refine zJ_iload_n dX13_wordHere_13 rfl ?_
        rw [hz.2.2.1]
        refine zJ_iadd dX13_wordHere_14 ?_
        rw [nI_add]
        refine zP_callVi [_] _ lv_X13_119 (m_byteAt (d := d - 1) hl (by omega) hs hz (by omega)) (zSt_ob hs 74 13 rfl) rfl (by omega) (Nat.le_of_ble_eq_true rfl) rfl dX13_wordHere_15 ?_
        refine zP_callSi [_] _ ls_X13_145 (m_isSmall (d := d - 1) hl (by omega)) rfl (by omega) (Nat.le_of_ble_eq_true rfl) rfl dX13_wordHere_18 ?_
        rw [rng_by (fun q => (hz.2.2.2.2.2.2.2 _ q).2) (by omega) (by omega), hdf]
        refine zJ_if_eq 61 dX13_wordHere_21 (by decide) (fun _ => ?_) (fun c21 => absurd rfl c21)
        refine zJ_iload_n dX13_wordHere_61 rfl ?_
        refine zJ_bipush (v := nI 6) dX13_wordHere_62 rfl ?_
        refine zJ_icmp_le 71 dX13_wordHere_64 (by decide) (fun c64 => absurd c64 (fun q => absurd ((nI_leI (by omega) (by omega)).mp q) (by omega))) (fun _ => ?_)
        refine zJ_iconst (v := -1) dX13_wordHere_67 rfl ?_
        refine zJ_goto 72 dX13_wordHere_68 (by decide) ?_
        refine zJ_iret rfl dX13_wordHere_72 ?_
        exact ⟨_, J, rfl, rfl, rfl, hf, hz⟩
      · rw [if_neg h6]
        refine zJ_aload_n dX13_wordHere_8 rfl ?_
        refine zJ_aload_n dX13_wordHere_9 rfl ?_
        refine zP_geti lf_X13_116 (zSt_ob hs 74 13 rfl) rfl dX13_wordHere_10 ?_
        refine zJ_iload_n dX13_wordHere_13 rfl ?_
        rw [hz.2.2.1]
        refine zJ_iadd dX13_wordHere_14 ?_
        rw [nI_add]
        refine zP_callVi [_] _ lv_X13_119 (m_byteAt (d := d - 1) hl (by omega) hs hz (by omega)) (zSt_ob hs 74 13 rfl) rfl (by omega) (Nat.le_of_ble_eq_true rfl) rfl dX13_wordHere_15 ?_
        refine zP_callSi [_] _ ls_X13_145 (m_isSmall (d := d - 1) hl (by omega)) rfl (by omega) (Nat.le_of_ble_eq_true rfl) rfl dX13_wordHere_18 ?_
        rw [rng_by (fun q => (hz.2.2.2.2.2.2.2 _ q).2) (by omega) (by omega), hdf]
        refine zJ_if_eq 61 dX13_wordHere_21 (by decide) (fun _ => ?_) (fun c21 => absurd rfl c21)
        refine zJ_iload_n dX13_wordHere_61 rfl ?_
        refine zJ_bipush (v := nI 6) dX13_wordHere_62 rfl ?_
        refine zJ_icmp_le 71 dX13_wordHere_64 (by decide) (fun _ => ?_) (fun c64 => absurd ((nI_leI (by omega) (by omega)).mpr (by omega)) c64)
        refine zJ_iload_n dX13_wordHere_71 rfl ?_
        refine zJ_iret rfl dX13_wordHere_72 ?_
        exact ⟨_, J, rfl, rfl, by rw [show min n 6 = W - F by omega], hf, hz⟩
    | succ m ih =>
      intro n J hn hf hz
      have hl1 := hlt (F + n) (by omega) (by omega)
      have hl2 : 97 ≤ bs (F + n) ∧ bs (F + n) ≤ 122 := by simpa [ltB] using hl1
      have hdt : (decide (F + n < L) && (decide (97 ≤ bs (F + n)) && decide (bs (F + n) ≤ 122))) = true := by rw [decide_eq_true (show F + n < L by omega), decide_eq_true hl2.1, decide_eq_true hl2.2]; rfl
      have hby : byC bs L (F + n) = nI (bs (F + n)) := if_pos (by omega)
      have IH := ih (n + 1) J (by omega) hf hz
      by_cases h6 : n < 6
      · have hval : nI (27 * wcN bs F (min n 6)) + nI (bs (F + n)) - nI 97 + nI 1 = nI (wcN bs F (min (n + 1) 6)) := by
          rw [nI_add, pk_sub (by omega), nI_add, show min n 6 = n by omega, show min (n + 1) 6 = n + 1 by omega]
          congr 1
          show _ = 27 * wcN bs F n + (bs (F + n) - 96)
          omega
        refine zJ_aload_n dX13_wordHere_8 rfl ?_
        refine zJ_aload_n dX13_wordHere_9 rfl ?_
        refine zP_geti lf_X13_116 (zSt_ob hs 74 13 rfl) rfl dX13_wordHere_10 ?_
        refine zJ_iload_n dX13_wordHere_13 rfl ?_
        rw [hz.2.2.1]
        refine zJ_iadd dX13_wordHere_14 ?_
        rw [nI_add]
        refine zP_callVi [_] _ lv_X13_119 (m_byteAt (d := d - 1) hl (by omega) hs hz (by omega)) (zSt_ob hs 74 13 rfl) rfl (by omega) (Nat.le_of_ble_eq_true rfl) rfl dX13_wordHere_15 ?_
        refine zP_callSi [_] _ ls_X13_145 (m_isSmall (d := d - 1) hl (by omega)) rfl (by omega) (Nat.le_of_ble_eq_true rfl) rfl dX13_wordHere_18 ?_
        rw [rng_by (fun q => (hz.2.2.2.2.2.2.2 _ q).2) (by omega) (by omega), hdt]
        refine zJ_if_eq 61 dX13_wordHere_21 (by decide) (fun c21 => absurd c21 (by decide)) (fun _ => ?_)
        refine zJ_iload_n dX13_wordHere_24 rfl ?_
        refine zJ_bipush (v := nI 6) dX13_wordHere_25 rfl ?_
        refine zJ_icmp_ge 53 dX13_wordHere_27 (by decide) (fun c27 => absurd c27 (nI_ge (by omega) (by omega))) (fun _ => ?_)
        refine zJ_bipush (v := nI 27) dX13_wordHere_30 rfl ?_
        refine zJ_iload_n dX13_wordHere_32 rfl ?_
        refine zJ_imul dX13_wordHere_33 ?_
        rw [pk_mul]
        refine zJ_aload_n dX13_wordHere_34 rfl ?_
        refine zJ_aload_n dX13_wordHere_35 rfl ?_
        refine zP_geti lf_X13_116 (zSt_ob hs 74 13 rfl) rfl dX13_wordHere_36 ?_
        refine zJ_iload_n dX13_wordHere_39 rfl ?_
        rw [hz.2.2.1]
        refine zJ_iadd dX13_wordHere_40 ?_
        rw [nI_add]
        refine zP_callVi [_] _ lv_X13_119 (m_byteAt (d := d - 1) hl (by omega) hs hz (by omega)) (zSt_ob hs 74 13 rfl) rfl (by omega) (Nat.le_of_ble_eq_true rfl) rfl dX13_wordHere_41 ?_
        rw [hby]
        refine zJ_iadd dX13_wordHere_44 ?_
        refine zJ_bipush (v := nI 97) dX13_wordHere_45 rfl ?_
        refine zJ_isub dX13_wordHere_47 ?_
        refine zJ_iconst (v := nI 1) dX13_wordHere_48 rfl ?_
        refine zJ_iadd dX13_wordHere_49 ?_
        rw [hval]
        refine zJ_goto 54 dX13_wordHere_50 (by decide) ?_
        refine zJ_istore_m 1 dX13_wordHere_54 rfl (Nat.le_of_ble_eq_true rfl) (by decide) ?_
        refine zJ_iinc1 dX13_wordHere_55 rfl (by decide) ?_
        refine zJ_goto 8 dX13_wordHere_58 (by decide) ?_
        exact zJ_back (zle_r (zle_r (zle_r zle_0))) rfl IH
      · rw [show min (n + 1) 6 = min n 6 by omega] at IH
        refine zJ_aload_n dX13_wordHere_8 rfl ?_
        refine zJ_aload_n dX13_wordHere_9 rfl ?_
        refine zP_geti lf_X13_116 (zSt_ob hs 74 13 rfl) rfl dX13_wordHere_10 ?_
        refine zJ_iload_n dX13_wordHere_13 rfl ?_
        rw [hz.2.2.1]
        refine zJ_iadd dX13_wordHere_14 ?_
        rw [nI_add]
        refine zP_callVi [_] _ lv_X13_119 (m_byteAt (d := d - 1) hl (by omega) hs hz (by omega)) (zSt_ob hs 74 13 rfl) rfl (by omega) (Nat.le_of_ble_eq_true rfl) rfl dX13_wordHere_15 ?_
        refine zP_callSi [_] _ ls_X13_145 (m_isSmall (d := d - 1) hl (by omega)) rfl (by omega) (Nat.le_of_ble_eq_true rfl) rfl dX13_wordHere_18 ?_
        rw [rng_by (fun q => (hz.2.2.2.2.2.2.2 _ q).2) (by omega) (by omega), hdt]
        refine zJ_if_eq 61 dX13_wordHere_21 (by decide) (fun c21 => absurd c21 (by decide)) (fun _ => ?_)
        refine zJ_iload_n dX13_wordHere_24 rfl ?_
        refine zJ_bipush (v := nI 6) dX13_wordHere_25 rfl ?_
        refine zJ_icmp_ge 53 dX13_wordHere_27 (by decide) (fun _ => ?_) (fun c27 => absurd (nI_le (by omega) (by omega)) c27)
        refine zJ_iload_n dX13_wordHere_53 rfl ?_
        refine zJ_istore_m 1 dX13_wordHere_54 rfl (Nat.le_of_ble_eq_true rfl) (by decide) ?_
        refine zJ_iinc1 dX13_wordHere_55 rfl (by decide) ?_
        refine zJ_goto 8 dX13_wordHere_58 (by decide) ?_
        exact zJ_back (zle_r (zle_r (zle_r zle_0))) rfl IH
  refine zJ_aload_n dX13_wordHere_0 rfl ?_
  refine zP_ecallVv [] _ lv_X13_129 (m_blanks (d := d - 1) hl (by omega) hs h) (zSt_ob hs 74 13 rfl) rfl (by omega) (Nat.le_of_ble_eq_true rfl) rfl dX13_wordHere_1 (fun J hJ => ?_)
  refine zJ_iconst (v := nI 0) dX13_wordHere_4 rfl ?_
  refine zJ_istore_m 1 dX13_wordHere_5 rfl (Nat.le_of_ble_eq_true rfl) (by decide) ?_
  refine zJ_iconst (v := nI 0) dX13_wordHere_6 rfl ?_
  refine zJ_istore_m 2 dX13_wordHere_7 rfl (Nat.le_of_ble_eq_true rfl) (by decide) ?_
  rw [hF] at hJ
  exact zJ_back (zle_r (zle_r (zle_r zle_0))) rfl (loop (W - F) 0 J (by omega) hJ.1 hJ.2)
def sixI (a b c d e f : Int32) : Int32 :=
  let v := nI 27 * (nI 27 * a + b) + c
  let v := if d = 0 then v else nI 27 * v + d
  let v := if e = 0 then v else nI 27 * v + e
  if f = 0 then v else nI 27 * v + f
theorem m_six (hl : l.stackTraces = false) (hd : 1 ≤ d) {a b c x e f : Int32} : zD l Xi mX13_six d [.int a, .int b, .int c, .int x, .int e, .int f] I g (some (.int (sixI a b c x e f))) I := by
  refine zC_of hl rfl rfl rfl (Nat.le_of_ble_eq_true rfl) (zav_i (zav_i (zav_i (zav_i (zav_i (zav_i zav_0)))))) ?_
  refine zJ_bipush (v := nI 27) dX13_six_0 rfl ?_
  refine zJ_bipush (v := nI 27) dX13_six_2 rfl ?_
  refine zJ_iload_n dX13_six_4 rfl ?_
  refine zJ_imul dX13_six_5 ?_
  refine zJ_iload_n dX13_six_6 rfl ?_
  refine zJ_iadd dX13_six_7 ?_
  refine zJ_imul dX13_six_8 ?_
  refine zJ_iload_n dX13_six_9 rfl ?_
  refine zJ_iadd dX13_six_10 ?_
  refine zJ_istore dX13_six_11 (Nat.le_of_ble_eq_true rfl) (by decide) ?_
  refine zJ_iload_n dX13_six_13 rfl ?_
  refine zJ_if_ne 22 dX13_six_14 (by decide) (fun c14 => ?_) (fun c14 => ?_)
  · skip
    refine zJ_bipush (v := nI 27) dX13_six_22 rfl ?_
    refine zJ_iload dX13_six_24 rfl ?_
    refine zJ_imul dX13_six_26 ?_
    refine zJ_iload_n dX13_six_27 rfl ?_
    refine zJ_iadd dX13_six_28 ?_
    refine zJ_istore dX13_six_29 (Nat.le_of_ble_eq_true rfl) (by decide) ?_
    refine zJ_iload dX13_six_31 rfl ?_
    refine zJ_if_ne 41 dX13_six_33 (by decide) (fun c33 => ?_) (fun c33 => ?_)
    · skip
      refine zJ_bipush (v := nI 27) dX13_six_41 rfl ?_
      refine zJ_iload dX13_six_43 rfl ?_
      refine zJ_imul dX13_six_45 ?_
      refine zJ_iload dX13_six_46 rfl ?_
      refine zJ_iadd dX13_six_48 ?_
      refine zJ_istore dX13_six_49 (Nat.le_of_ble_eq_true rfl) (by decide) ?_
      refine zJ_iload dX13_six_51 rfl ?_
      refine zJ_if_ne 61 dX13_six_53 (by decide) (fun c53 => ?_) (fun c53 => ?_)
      · skip
        refine zJ_bipush (v := nI 27) dX13_six_61 rfl ?_
        refine zJ_iload dX13_six_63 rfl ?_
        refine zJ_imul dX13_six_65 ?_
        refine zJ_iload dX13_six_66 rfl ?_
        refine zJ_iadd dX13_six_68 ?_
        refine zJ_iret rfl dX13_six_69 ?_
        exact ⟨by unfold sixI; simp only [c14, c33, c53, if_true, if_false], rfl⟩
      · skip
        refine zJ_iload dX13_six_56 rfl ?_
        refine zJ_goto 69 dX13_six_58 (by decide) ?_
        refine zJ_iret rfl dX13_six_69 ?_
        exact ⟨by unfold sixI; simp only [c14, c33, c53, if_true, if_false], rfl⟩
    · skip
      refine zJ_iload dX13_six_36 rfl ?_
      refine zJ_goto 49 dX13_six_38 (by decide) ?_
      refine zJ_istore dX13_six_49 (Nat.le_of_ble_eq_true rfl) (by decide) ?_
      refine zJ_iload dX13_six_51 rfl ?_
      refine zJ_if_ne 61 dX13_six_53 (by decide) (fun c53 => ?_) (fun c53 => ?_)
      · skip
        refine zJ_bipush (v := nI 27) dX13_six_61 rfl ?_
        refine zJ_iload dX13_six_63 rfl ?_
        refine zJ_imul dX13_six_65 ?_
        refine zJ_iload dX13_six_66 rfl ?_
        refine zJ_iadd dX13_six_68 ?_
        refine zJ_iret rfl dX13_six_69 ?_
        exact ⟨by unfold sixI; simp only [c14, c33, c53, if_true, if_false], rfl⟩
      · skip
        refine zJ_iload dX13_six_56 rfl ?_
        refine zJ_goto 69 dX13_six_58 (by decide) ?_
        refine zJ_iret rfl dX13_six_69 ?_
        exact ⟨by unfold sixI; simp only [c14, c33, c53, if_true, if_false], rfl⟩
  · skip
    refine zJ_iload dX13_six_17 rfl ?_
    refine zJ_goto 29 dX13_six_19 (by decide) ?_
    refine zJ_istore dX13_six_29 (Nat.le_of_ble_eq_true rfl) (by decide) ?_
    refine zJ_iload dX13_six_31 rfl ?_
    refine zJ_if_ne 41 dX13_six_33 (by decide) (fun c33 => ?_) (fun c33 => ?_)
    · skip
      refine zJ_bipush (v := nI 27) dX13_six_41 rfl ?_
      refine zJ_iload dX13_six_43 rfl ?_
      refine zJ_imul dX13_six_45 ?_
      refine zJ_iload dX13_six_46 rfl ?_
      refine zJ_iadd dX13_six_48 ?_
      refine zJ_istore dX13_six_49 (Nat.le_of_ble_eq_true rfl) (by decide) ?_
      refine zJ_iload dX13_six_51 rfl ?_
      refine zJ_if_ne 61 dX13_six_53 (by decide) (fun c53 => ?_) (fun c53 => ?_)
      · skip
        refine zJ_bipush (v := nI 27) dX13_six_61 rfl ?_
        refine zJ_iload dX13_six_63 rfl ?_
        refine zJ_imul dX13_six_65 ?_
        refine zJ_iload dX13_six_66 rfl ?_
        refine zJ_iadd dX13_six_68 ?_
        refine zJ_iret rfl dX13_six_69 ?_
        exact ⟨by unfold sixI; simp only [c14, c33, c53, if_true, if_false], rfl⟩
      · skip
        refine zJ_iload dX13_six_56 rfl ?_
        refine zJ_goto 69 dX13_six_58 (by decide) ?_
        refine zJ_iret rfl dX13_six_69 ?_
        exact ⟨by unfold sixI; simp only [c14, c33, c53, if_true, if_false], rfl⟩
    · skip
      refine zJ_iload dX13_six_36 rfl ?_
      refine zJ_goto 49 dX13_six_38 (by decide) ?_
      refine zJ_istore dX13_six_49 (Nat.le_of_ble_eq_true rfl) (by decide) ?_
      refine zJ_iload dX13_six_51 rfl ?_
      refine zJ_if_ne 61 dX13_six_53 (by decide) (fun c53 => ?_) (fun c53 => ?_)
      · skip
        refine zJ_bipush (v := nI 27) dX13_six_61 rfl ?_
        refine zJ_iload dX13_six_63 rfl ?_
        refine zJ_imul dX13_six_65 ?_
        refine zJ_iload dX13_six_66 rfl ?_
        refine zJ_iadd dX13_six_68 ?_
        refine zJ_iret rfl dX13_six_69 ?_
        exact ⟨by unfold sixI; simp only [c14, c33, c53, if_true, if_false], rfl⟩
      · skip
        refine zJ_iload dX13_six_56 rfl ?_
        refine zJ_goto 69 dX13_six_58 (by decide) ?_
        refine zJ_iret rfl dX13_six_69 ?_
        exact ⟨by unfold sixI; simp only [c14, c33, c53, if_true, if_false], rfl⟩
theorem m_isWord (hl : l.stackTraces = false) (hd : 4 ≤ d) (hs : zSt g) {bs : Nat → Nat} {L A F W i : Nat} {a b c x y z : Int32} (h : rz I bs L A none) (hF : sk bs L A = F) (hW : sp (ltB bs) L F = W) (hi : i < 20) (h6 : sixI a b c x y z = nI (codZ i)) : zEi l Xi mX13_isWord d [.ref 74, .int a, .int b, .int c, .int x, .int y, .int z] I g (fun v J => v = (if wdB bs F W i then 1 else 0) ∧ ft I J ∧ rz J bs L F none) := by
  refine zC_of hl rfl rfl rfl (Nat.le_of_ble_eq_true rfl) (zav_r (zSt_ob hs 74 13 rfl).1 (zav_i (zav_i (zav_i (zav_i (zav_i (zav_i zav_0))))))) ?_
  have hFW : F ≤ W := by rw [← hW]; exact sp_g
  have hlt : ∀ k, k < W - F → 97 ≤ bs (F + k) ∧ bs (F + k) ≤ 122 := fun k hk => by
    have h0 : F + k < sp (ltB bs) L F := by omega
    have h1 : ltB bs (F + k) = true := sp_P (a := F) (by omega) h0
    simpa [ltB] using h1
  have hwd := wd_code (i := i) hi hFW hlt
  refine zJ_aload_n dX13_isWord_0 rfl ?_
  refine zP_geti lf_X13_123 (zSt_ob hs 74 13 rfl) rfl dX13_isWord_1 ?_
  rw [h.2.2.2.2.1]
  refine zJ_if_ne 30 dX13_isWord_4 (by decide) (fun c4 => absurd rfl c4) (fun _ => ?_)
  refine zJ_aload_n dX13_isWord_7 rfl ?_
  refine zP_ecallVi [] _ lv_X13_148 (m_wordHere (d := d - 1) hl (by omega) hs h hF hW) (zSt_ob hs 74 13 rfl) rfl (by omega) (Nat.le_of_ble_eq_true rfl) rfl dX13_isWord_8 (fun v J hJ => ?_)
  obtain ⟨rfl, hf, hz⟩ := hJ
  refine zJ_iload_n dX13_isWord_11 rfl ?_
  refine zJ_iload_n dX13_isWord_12 rfl ?_
  refine zJ_iload_n dX13_isWord_13 rfl ?_
  refine zJ_iload dX13_isWord_14 rfl ?_
  refine zJ_iload dX13_isWord_16 rfl ?_
  refine zJ_iload dX13_isWord_18 rfl ?_
  refine zP_callSi [_, _, _, _, _, _] _ ls_X13_152 (m_six (d := d - 1) hl (by omega)) rfl (by omega) (Nat.le_of_ble_eq_true rfl) rfl dX13_isWord_20 ?_
  rw [h6]
  refine zJ_icmp_ne 30 dX13_isWord_23 (by decide) (fun c23 => ?_) (fun c23 => ?_)
  · skip
    refine zJ_iconst (v := nI 0) dX13_isWord_30 rfl ?_
    refine zJ_zret rfl (by decide) dX13_isWord_31 ?_
    exact ⟨_, J, rfl, rfl, by rw [← hwd, decide_eq_false c23]; rfl, hf, hz⟩
  · skip
    refine zJ_iconst (v := nI 1) dX13_isWord_26 rfl ?_
    refine zJ_goto 31 dX13_isWord_27 (by decide) ?_
    refine zJ_zret rfl (by decide) dX13_isWord_31 ?_
    exact ⟨_, J, rfl, rfl, by rw [← hwd, decide_eq_true c23]; rfl, hf, hz⟩
theorem m_skipWord (hl : l.stackTraces = false) (hd : 2 ≤ d) (hs : zSt g) {bs : Nat → Nat} {L A : Nat} {e : Option (Nat × Nat)} (h : rz I bs L A e) : zEv l Xi mX13_skipWord d [.ref 74] I g (fun J => ft I J ∧ rz J bs L (sp (ltB bs) L A) e) := by
  refine zC_of hl rfl rfl rfl (Nat.le_of_ble_eq_true rfl) (zav_r (zSt_ob hs 74 13 rfl).1 zav_0) ?_
  have hL := h.2.1
  have loop : ∀ m (J : zI) (B : Nat), L - B = m → ft I J → rz J bs L B e → sp (ltB bs) L B = sp (ltB bs) L A → zJ l Xi mX13_skipWord d 0 0 0 [some (.ref 74)] [] (J, g) (fun r' h' => r' = .inl none ∧ ∃ I', h' = (I', g) ∧ ft I I' ∧ rz I' bs L (sp (ltB bs) L A) e) := by
    intro m
    induction m with
    | zero =>
      intro J B hm hf hz hk
      have hB := hz.2.2.2.1
      have e0 : sp (ltB bs) L B = B := sp_no (fun q => by omega)
      refine zJ_aload_n dX13_skipWord_0 rfl ?_
      refine zJ_aload_n dX13_skipWord_1 rfl ?_
      refine zP_geti lf_X13_116 (zSt_ob hs 74 13 rfl) rfl dX13_skipWord_2 ?_
      rw [hz.2.2.1]
      refine zP_callVi [_] _ lv_X13_119 (m_byteAt (d := d - 1) hl (by omega) hs hz (by omega)) (zSt_ob hs 74 13 rfl) rfl (by omega) (Nat.le_of_ble_eq_true rfl) rfl dX13_skipWord_5 ?_
      refine zP_callSi [_] _ ls_X13_145 (m_isSmall (d := d - 1) hl (by omega)) rfl (by omega) (Nat.le_of_ble_eq_true rfl) rfl dX13_skipWord_8 ?_
      rw [rng_by (fun q => by omega) (by omega) (by omega), decide_eq_false (by omega), Bool.false_and]
      refine zJ_if_eq 27 dX13_skipWord_11 (by decide) (fun _ => ?_) (fun c11 => absurd rfl c11)
      refine zJ_vret rfl dX13_skipWord_27 ?_
      exact ⟨rfl, J, rfl, hf, by rw [← hk, e0]; exact hz⟩
    | succ m ih =>
      intro J B hm hf hz hk
      have hB := hz.2.2.2.1
      have hb8 := fun q => (hz.2.2.2.2.2.2.2 B q).2
      refine zJ_aload_n dX13_skipWord_0 rfl ?_
      refine zJ_aload_n dX13_skipWord_1 rfl ?_
      refine zP_geti lf_X13_116 (zSt_ob hs 74 13 rfl) rfl dX13_skipWord_2 ?_
      rw [hz.2.2.1]
      refine zP_callVi [_] _ lv_X13_119 (m_byteAt (d := d - 1) hl (by omega) hs hz (by omega)) (zSt_ob hs 74 13 rfl) rfl (by omega) (Nat.le_of_ble_eq_true rfl) rfl dX13_skipWord_5 ?_
      refine zP_callSi [_] _ ls_X13_145 (m_isSmall (d := d - 1) hl (by omega)) rfl (by omega) (Nat.le_of_ble_eq_true rfl) rfl dX13_skipWord_8 ?_
      rw [rng_by hb8 (by omega) (by omega)]
      refine zJ_if_eq 27 dX13_skipWord_11 (by decide) (fun c11 => ?_) (fun c11 => ?_)
      · replace c11 := zb0.mp c11
        refine zJ_vret rfl dX13_skipWord_27 ?_
        have hn : ¬ (B < L ∧ ltB bs B = true) := fun q => by
          rw [decide_eq_true q.1, Bool.true_and] at c11
          have q2 : (decide (97 ≤ bs B) && decide (bs B ≤ 122)) = true := q.2
          rw [q2] at c11; cases c11
        exact ⟨rfl, J, rfl, hf, by rw [← hk, sp_no hn]; exact hz⟩
      · replace c11 := zb1.mp c11
        refine zJ_aload_n dX13_skipWord_14 rfl ?_
        refine zJ_dup dX13_skipWord_15 rfl ?_
        refine zP_geti lf_X13_116 (zSt_ob hs 74 13 rfl) rfl dX13_skipWord_16 ?_
        rw [hz.2.2.1]
        refine zJ_iconst (v := nI 1) dX13_skipWord_19 rfl ?_
        refine zJ_iadd dX13_skipWord_20 ?_
        rw [nI_add]
        refine zP_puti lf_X13_116 (zSt_ob hs 74 13 rfl) rfl dX13_skipWord_21 ?_
        refine zJ_goto 0 dX13_skipWord_24 (by decide) ?_
        rw [Bool.and_eq_true, decide_eq_true_iff] at c11
        exact zJ_back (zle_r zle_0) rfl (ih _ (B + 1) (by omega) (ft_at hf) (rz_at hz (by omega)) ((sk_st c11.1 c11.2).trans hk))
  exact loop (L - A) I A rfl ft_rfl h rfl
theorem m_takes (hl : l.stackTraces = false) (hd : 5 ≤ d) (hs : zSt g) {bs : Nat → Nat} {L A F W i : Nat} {a b c x y z : Int32} (h : rz I bs L A none) (hF : sk bs L A = F) (hW : sp (ltB bs) L F = W) (hi : i < 20) (h6 : sixI a b c x y z = nI (codZ i)) : zEi l Xi mX13_takes d [.ref 74, .int a, .int b, .int c, .int x, .int y, .int z] I g (fun v J => v = (if wdB bs F W i then 1 else 0) ∧ ft I J ∧ rz J bs L (if wdB bs F W i then W else F) none) := by
  refine zC_of hl rfl rfl rfl (Nat.le_of_ble_eq_true rfl) (zav_r (zSt_ob hs 74 13 rfl).1 (zav_i (zav_i (zav_i (zav_i (zav_i (zav_i zav_0))))))) ?_
  refine zJ_aload_n dX13_takes_0 rfl ?_
  refine zJ_iload_n dX13_takes_1 rfl ?_
  refine zJ_iload_n dX13_takes_2 rfl ?_
  refine zJ_iload_n dX13_takes_3 rfl ?_
  refine zJ_iload dX13_takes_4 rfl ?_
  refine zJ_iload dX13_takes_6 rfl ?_
  refine zJ_iload dX13_takes_8 rfl ?_
  refine zP_ecallVi [_, _, _, _, _, _] _ lv_X13_156 (m_isWord (d := d - 1) hl (by omega) hs h hF hW hi h6) (zSt_ob hs 74 13 rfl) rfl (by omega) (Nat.le_of_ble_eq_true rfl) rfl dX13_takes_10 (fun v J hJ => ?_)
  obtain ⟨rfl, hf, hz⟩ := hJ
  refine zJ_istore dX13_takes_13 (Nat.le_of_ble_eq_true rfl) (by decide) ?_
  refine zJ_iload dX13_takes_15 rfl ?_
  refine zJ_if_eq 24 dX13_takes_17 (by decide) (fun c17 => ?_) (fun c17 => ?_)
  · skip
    refine zJ_iload dX13_takes_24 rfl ?_
    refine zJ_zret rfl zbr dX13_takes_26 ?_
    exact ⟨_, J, rfl, rfl, rfl, hf, by rw [zb0.mp c17]; exact hz⟩
  · skip
    refine zJ_aload_n dX13_takes_20 rfl ?_
    refine zP_ecallVv [] _ lv_X13_160 (m_skipWord (d := d - 1) hl (by omega) hs hz) (zSt_ob hs 74 13 rfl) rfl (by omega) (Nat.le_of_ble_eq_true rfl) rfl dX13_takes_21 (fun K hK => ?_)
    refine zJ_iload dX13_takes_24 rfl ?_
    refine zJ_zret rfl zbr dX13_takes_26 ?_
    exact ⟨_, K, rfl, rfl, rfl, ft_trans hf hK.1, by rw [zb1.mp c17, if_pos rfl, ← hW]; exact hK.2⟩
theorem m_kindHere (hl : l.stackTraces = false) (hd : 5 ≤ d) (hs : zSt g) {bs : Nat → Nat} {L A F W : Nat} (h : rz I bs L A none) (hF : sk bs L A = F) (hW : sp (ltB bs) L F = W) : zEi l Xi mX13_kindHere d [.ref 74] I g (fun v J => v = (if kdC bs F W = 6 then -1 else nI (kdC bs F W)) ∧ ft I J ∧ rz J bs L F none) := by
  refine zC_of hl rfl rfl rfl (Nat.le_of_ble_eq_true rfl) (zav_r (zSt_ob hs 74 13 rfl).1 zav_0) ?_
  have hFF : sk bs L F = F := by rw [← hF]; exact sk_sk
  unfold kdC
  refine zJ_aload_n dX13_kindHere_0 rfl ?_
  refine zJ_bipush (v := nI 19) dX13_kindHere_1 rfl ?_
  refine zJ_bipush (v := nI 9) dX13_kindHere_3 rfl ?_
  refine zJ_bipush (v := nI 26) dX13_kindHere_5 rfl ?_
  refine zJ_iconst (v := nI 5) dX13_kindHere_7 rfl ?_
  refine zJ_iconst (v := nI 0) dX13_kindHere_8 rfl ?_
  refine zJ_iconst (v := nI 0) dX13_kindHere_9 rfl ?_
  refine zP_ecallVi [_, _, _, _, _, _] _ lv_X13_156 (m_isWord (i := 0) (d := d - 1) hl (by omega) hs h hF hW (by decide) (by decide +kernel)) (zSt_ob hs 74 13 rfl) rfl (by omega) (Nat.le_of_ble_eq_true rfl) rfl dX13_kindHere_10 (fun v0 J0 h0 => ?_)
  obtain ⟨rfl, f0, z0⟩ := h0
  refine zJ_if_eq 18 dX13_kindHere_13 (by decide) (fun c13 => ?_) (fun c13 => ?_)
  · replace c13 := zb0.mp c13
    refine zJ_aload_n dX13_kindHere_18 rfl ?_
    refine zJ_bipush (v := nI 23) dX13_kindHere_19 rfl ?_
    refine zJ_iconst (v := nI 1) dX13_kindHere_21 rfl ?_
    refine zJ_bipush (v := nI 12) dX13_kindHere_22 rfl ?_
    refine zJ_bipush (v := nI 12) dX13_kindHere_24 rfl ?_
    refine zJ_iconst (v := nI 0) dX13_kindHere_26 rfl ?_
    refine zJ_iconst (v := nI 0) dX13_kindHere_27 rfl ?_
    refine zP_ecallVi [_, _, _, _, _, _] _ lv_X13_156 (m_isWord (i := 1) (d := d - 1) hl (by omega) hs z0 hFF hW (by decide) (by decide +kernel)) (zSt_ob hs 74 13 rfl) rfl (by omega) (Nat.le_of_ble_eq_true rfl) rfl dX13_kindHere_28 (fun v1 J1 h1 => ?_)
    obtain ⟨rfl, f1, z1⟩ := h1
    refine zJ_if_eq 36 dX13_kindHere_31 (by decide) (fun c31 => ?_) (fun c31 => ?_)
    · replace c31 := zb0.mp c31
      refine zJ_aload_n dX13_kindHere_36 rfl ?_
      refine zJ_bipush (v := nI 23) dX13_kindHere_37 rfl ?_
      refine zJ_bipush (v := nI 9) dX13_kindHere_39 rfl ?_
      refine zJ_iconst (v := nI 4) dX13_kindHere_41 rfl ?_
      refine zJ_iconst (v := nI 5) dX13_kindHere_42 rfl ?_
      refine zJ_iconst (v := nI 0) dX13_kindHere_43 rfl ?_
      refine zJ_iconst (v := nI 0) dX13_kindHere_44 rfl ?_
      refine zP_ecallVi [_, _, _, _, _, _] _ lv_X13_156 (m_isWord (i := 2) (d := d - 1) hl (by omega) hs z1 hFF hW (by decide) (by decide +kernel)) (zSt_ob hs 74 13 rfl) rfl (by omega) (Nat.le_of_ble_eq_true rfl) rfl dX13_kindHere_45 (fun v2 J2 h2 => ?_)
      obtain ⟨rfl, f2, z2⟩ := h2
      refine zJ_if_eq 53 dX13_kindHere_48 (by decide) (fun c48 => ?_) (fun c48 => ?_)
      · replace c48 := zb0.mp c48
        refine zJ_aload_n dX13_kindHere_53 rfl ?_
        refine zJ_bipush (v := nI 14) dX13_kindHere_54 rfl ?_
        refine zJ_iconst (v := nI 5) dX13_kindHere_56 rfl ?_
        refine zJ_bipush (v := nI 20) dX13_kindHere_57 rfl ?_
        refine zJ_iconst (v := nI 0) dX13_kindHere_59 rfl ?_
        refine zJ_iconst (v := nI 0) dX13_kindHere_60 rfl ?_
        refine zJ_iconst (v := nI 0) dX13_kindHere_61 rfl ?_
        refine zP_ecallVi [_, _, _, _, _, _] _ lv_X13_156 (m_isWord (i := 3) (d := d - 1) hl (by omega) hs z2 hFF hW (by decide) (by decide +kernel)) (zSt_ob hs 74 13 rfl) rfl (by omega) (Nat.le_of_ble_eq_true rfl) rfl dX13_kindHere_62 (fun v3 J3 h3 => ?_)
        obtain ⟨rfl, f3, z3⟩ := h3
        refine zJ_if_eq 70 dX13_kindHere_65 (by decide) (fun c65 => ?_) (fun c65 => ?_)
        · replace c65 := zb0.mp c65
          refine zJ_aload_n dX13_kindHere_70 rfl ?_
          refine zJ_bipush (v := nI 16) dX13_kindHere_71 rfl ?_
          refine zJ_bipush (v := nI 9) dX13_kindHere_73 rfl ?_
          refine zJ_bipush (v := nI 14) dX13_kindHere_75 rfl ?_
          refine zJ_iconst (v := nI 0) dX13_kindHere_77 rfl ?_
          refine zJ_iconst (v := nI 0) dX13_kindHere_78 rfl ?_
          refine zJ_iconst (v := nI 0) dX13_kindHere_79 rfl ?_
          refine zP_ecallVi [_, _, _, _, _, _] _ lv_X13_156 (m_isWord (i := 4) (d := d - 1) hl (by omega) hs z3 hFF hW (by decide) (by decide +kernel)) (zSt_ob hs 74 13 rfl) rfl (by omega) (Nat.le_of_ble_eq_true rfl) rfl dX13_kindHere_80 (fun v4 J4 h4 => ?_)
          obtain ⟨rfl, f4, z4⟩ := h4
          refine zJ_if_eq 88 dX13_kindHere_83 (by decide) (fun c83 => ?_) (fun c83 => ?_)
          · replace c83 := zb0.mp c83
            refine zJ_aload_n dX13_kindHere_88 rfl ?_
            refine zJ_bipush (v := nI 7) dX13_kindHere_89 rfl ?_
            refine zJ_iconst (v := nI 1) dX13_kindHere_91 rfl ?_
            refine zJ_bipush (v := nI 9) dX13_kindHere_92 rfl ?_
            refine zJ_bipush (v := nI 14) dX13_kindHere_94 rfl ?_
            refine zJ_iconst (v := nI 0) dX13_kindHere_96 rfl ?_
            refine zJ_iconst (v := nI 0) dX13_kindHere_97 rfl ?_
            refine zP_ecallVi [_, _, _, _, _, _] _ lv_X13_156 (m_isWord (i := 5) (d := d - 1) hl (by omega) hs z4 hFF hW (by decide) (by decide +kernel)) (zSt_ob hs 74 13 rfl) rfl (by omega) (Nat.le_of_ble_eq_true rfl) rfl dX13_kindHere_98 (fun v5 J5 h5 => ?_)
            obtain ⟨rfl, f5, z5⟩ := h5
            refine zJ_if_eq 108 dX13_kindHere_101 (by decide) (fun c101 => ?_) (fun c101 => ?_)
            · replace c101 := zb0.mp c101
              refine zJ_iconst (v := -1) dX13_kindHere_108 rfl ?_
              refine zJ_iret rfl dX13_kindHere_109 ?_
              exact ⟨_, J5, rfl, rfl, by simp [c13, c31, c48, c65, c83, c101], (ft_trans (ft_trans (ft_trans (ft_trans (ft_trans f0 f1) f2) f3) f4) f5), z5⟩
            · replace c101 := zb1.mp c101
              refine zJ_iconst (v := nI 5) dX13_kindHere_104 rfl ?_
              refine zJ_goto 109 dX13_kindHere_105 (by decide) ?_
              refine zJ_iret rfl dX13_kindHere_109 ?_
              exact ⟨_, J5, rfl, rfl, by simp [c13, c31, c48, c65, c83, c101], (ft_trans (ft_trans (ft_trans (ft_trans (ft_trans f0 f1) f2) f3) f4) f5), z5⟩
          · replace c83 := zb1.mp c83
            refine zJ_iconst (v := nI 4) dX13_kindHere_86 rfl ?_
            refine zJ_iret rfl dX13_kindHere_87 ?_
            exact ⟨_, J4, rfl, rfl, by simp [c13, c31, c48, c65, c83], (ft_trans (ft_trans (ft_trans (ft_trans f0 f1) f2) f3) f4), z4⟩
        · replace c65 := zb1.mp c65
          refine zJ_iconst (v := nI 3) dX13_kindHere_68 rfl ?_
          refine zJ_iret rfl dX13_kindHere_69 ?_
          exact ⟨_, J3, rfl, rfl, by simp [c13, c31, c48, c65], (ft_trans (ft_trans (ft_trans f0 f1) f2) f3), z3⟩
      · replace c48 := zb1.mp c48
        refine zJ_iconst (v := nI 2) dX13_kindHere_51 rfl ?_
        refine zJ_iret rfl dX13_kindHere_52 ?_
        exact ⟨_, J2, rfl, rfl, by simp [c13, c31, c48], (ft_trans (ft_trans f0 f1) f2), z2⟩
    · replace c31 := zb1.mp c31
      refine zJ_iconst (v := nI 1) dX13_kindHere_34 rfl ?_
      refine zJ_iret rfl dX13_kindHere_35 ?_
      exact ⟨_, J1, rfl, rfl, by simp [c13, c31], (ft_trans f0 f1), z1⟩
  · replace c13 := zb1.mp c13
    refine zJ_iconst (v := nI 0) dX13_kindHere_16 rfl ?_
    refine zJ_iret rfl dX13_kindHere_17 ?_
    exact ⟨_, J0, rfl, rfl, by simp [c13], f0, z0⟩
theorem m_stepHere (hl : l.stackTraces = false) (hd : 5 ≤ d) (hs : zSt g) {bs : Nat → Nat} {L A F W : Nat} (h : rz I bs L A none) (hF : sk bs L A = F) (hW : sp (ltB bs) L F = W) : zEi l Xi mX13_stepHere d [.ref 74] I g (fun v J => v = (if kdW bs F W = 7 then -1 else nI (kdW bs F W)) ∧ ft I J ∧ rz J bs L F none) := by
  refine zC_of hl rfl rfl rfl (Nat.le_of_ble_eq_true rfl) (zav_r (zSt_ob hs 74 13 rfl).1 zav_0) ?_
  have hFF : sk bs L F = F := by rw [← hF]; exact sk_sk
  unfold kdW
  refine zJ_aload_n dX13_stepHere_0 rfl ?_
  refine zJ_bipush (v := nI 18) dX13_stepHere_1 rfl ?_
  refine zJ_bipush (v := nI 15) dX13_stepHere_3 rfl ?_
  refine zJ_bipush (v := nI 21) dX13_stepHere_5 rfl ?_
  refine zJ_bipush (v := nI 14) dX13_stepHere_7 rfl ?_
  refine zJ_iconst (v := nI 4) dX13_stepHere_9 rfl ?_
  refine zJ_iconst (v := nI 0) dX13_stepHere_10 rfl ?_
  refine zP_ecallVi [_, _, _, _, _, _] _ lv_X13_156 (m_isWord (i := 9) (d := d - 1) hl (by omega) hs h hF hW (by decide) (by decide +kernel)) (zSt_ob hs 74 13 rfl) rfl (by omega) (Nat.le_of_ble_eq_true rfl) rfl dX13_stepHere_11 (fun v0 J0 h0 => ?_)
  obtain ⟨rfl, f0, z0⟩ := h0
  refine zJ_if_eq 19 dX13_stepHere_14 (by decide) (fun c14 => ?_) (fun c14 => ?_)
  · replace c14 := zb0.mp c14
    refine zJ_aload_n dX13_stepHere_19 rfl ?_
    refine zJ_bipush (v := nI 12) dX13_stepHere_20 rfl ?_
    refine zJ_iconst (v := nI 1) dX13_stepHere_22 rfl ?_
    refine zJ_bipush (v := nI 25) dX13_stepHere_23 rfl ?_
    refine zJ_iconst (v := nI 0) dX13_stepHere_25 rfl ?_
    refine zJ_iconst (v := nI 0) dX13_stepHere_26 rfl ?_
    refine zJ_iconst (v := nI 0) dX13_stepHere_27 rfl ?_
    refine zP_ecallVi [_, _, _, _, _, _] _ lv_X13_156 (m_isWord (i := 17) (d := d - 1) hl (by omega) hs z0 hFF hW (by decide) (by decide +kernel)) (zSt_ob hs 74 13 rfl) rfl (by omega) (Nat.le_of_ble_eq_true rfl) rfl dX13_stepHere_28 (fun v1 J1 h1 => ?_)
    obtain ⟨rfl, f1, z1⟩ := h1
    refine zJ_if_eq 36 dX13_stepHere_31 (by decide) (fun c31 => ?_) (fun c31 => ?_)
    · replace c31 := zb0.mp c31
      refine zJ_aload_n dX13_stepHere_36 rfl ?_
      refine zJ_bipush (v := nI 18) dX13_stepHere_37 rfl ?_
      refine zJ_bipush (v := nI 9) dX13_stepHere_39 rfl ?_
      refine zJ_bipush (v := nI 16) dX13_stepHere_41 rfl ?_
      refine zJ_iconst (v := nI 0) dX13_stepHere_43 rfl ?_
      refine zJ_iconst (v := nI 0) dX13_stepHere_44 rfl ?_
      refine zJ_iconst (v := nI 0) dX13_stepHere_45 rfl ?_
      refine zP_ecallVi [_, _, _, _, _, _] _ lv_X13_156 (m_isWord (i := 18) (d := d - 1) hl (by omega) hs z1 hFF hW (by decide) (by decide +kernel)) (zSt_ob hs 74 13 rfl) rfl (by omega) (Nat.le_of_ble_eq_true rfl) rfl dX13_stepHere_46 (fun v2 J2 h2 => ?_)
      obtain ⟨rfl, f2, z2⟩ := h2
      refine zJ_if_eq 54 dX13_stepHere_49 (by decide) (fun c49 => ?_) (fun c49 => ?_)
      · replace c49 := zb0.mp c49
        refine zJ_aload_n dX13_stepHere_54 rfl ?_
        refine zJ_iconst (v := nI 3) dX13_stepHere_55 rfl ?_
        refine zJ_bipush (v := nI 18) dX13_stepHere_56 rfl ?_
        refine zJ_bipush (v := nI 9) dX13_stepHere_58 rfl ?_
        refine zJ_bipush (v := nI 20) dX13_stepHere_60 rfl ?_
        refine zJ_iconst (v := nI 0) dX13_stepHere_62 rfl ?_
        refine zJ_iconst (v := nI 0) dX13_stepHere_63 rfl ?_
        refine zP_ecallVi [_, _, _, _, _, _] _ lv_X13_156 (m_isWord (i := 8) (d := d - 1) hl (by omega) hs z2 hFF hW (by decide) (by decide +kernel)) (zSt_ob hs 74 13 rfl) rfl (by omega) (Nat.le_of_ble_eq_true rfl) rfl dX13_stepHere_64 (fun v3 J3 h3 => ?_)
        obtain ⟨rfl, f3, z3⟩ := h3
        refine zJ_if_eq 72 dX13_stepHere_67 (by decide) (fun c67 => ?_) (fun c67 => ?_)
        · replace c67 := zb0.mp c67
          refine zJ_aload_n dX13_stepHere_72 rfl ?_
          refine zJ_iconst (v := nI 2) dX13_stepHere_73 rfl ?_
          refine zJ_bipush (v := nI 12) dX13_stepHere_74 rfl ?_
          refine zJ_bipush (v := nI 15) dX13_stepHere_76 rfl ?_
          refine zJ_iconst (v := nI 3) dX13_stepHere_78 rfl ?_
          refine zJ_bipush (v := nI 11) dX13_stepHere_79 rfl ?_
          refine zJ_iconst (v := nI 0) dX13_stepHere_81 rfl ?_
          refine zP_ecallVi [_, _, _, _, _, _] _ lv_X13_156 (m_isWord (i := 19) (d := d - 1) hl (by omega) hs z3 hFF hW (by decide) (by decide +kernel)) (zSt_ob hs 74 13 rfl) rfl (by omega) (Nat.le_of_ble_eq_true rfl) rfl dX13_stepHere_82 (fun v4 J4 h4 => ?_)
          obtain ⟨rfl, f4, z4⟩ := h4
          refine zJ_if_eq 90 dX13_stepHere_85 (by decide) (fun c85 => ?_) (fun c85 => ?_)
          · replace c85 := zb0.mp c85
            refine zJ_aload_n dX13_stepHere_90 rfl ?_
            refine zJ_iconst (v := nI 5) dX13_stepHere_91 rfl ?_
            refine zJ_iconst (v := nI 1) dX13_stepHere_92 rfl ?_
            refine zJ_bipush (v := nI 19) dX13_stepHere_93 rfl ?_
            refine zJ_iconst (v := nI 5) dX13_stepHere_95 rfl ?_
            refine zJ_iconst (v := nI 0) dX13_stepHere_96 rfl ?_
            refine zJ_iconst (v := nI 0) dX13_stepHere_97 rfl ?_
            refine zP_ecallVi [_, _, _, _, _, _] _ lv_X13_156 (m_isWord (i := 15) (d := d - 1) hl (by omega) hs z4 hFF hW (by decide) (by decide +kernel)) (zSt_ob hs 74 13 rfl) rfl (by omega) (Nat.le_of_ble_eq_true rfl) rfl dX13_stepHere_98 (fun v5 J5 h5 => ?_)
            obtain ⟨rfl, f5, z5⟩ := h5
            refine zJ_if_eq 106 dX13_stepHere_101 (by decide) (fun c101 => ?_) (fun c101 => ?_)
            · replace c101 := zb0.mp c101
              refine zJ_aload_n dX13_stepHere_106 rfl ?_
              refine zJ_iconst (v := nI 1) dX13_stepHere_107 rfl ?_
              refine zJ_bipush (v := nI 7) dX13_stepHere_108 rfl ?_
              refine zJ_iconst (v := nI 1) dX13_stepHere_110 rfl ?_
              refine zJ_bipush (v := nI 9) dX13_stepHere_111 rfl ?_
              refine zJ_bipush (v := nI 14) dX13_stepHere_113 rfl ?_
              refine zJ_iconst (v := nI 0) dX13_stepHere_115 rfl ?_
              refine zP_ecallVi [_, _, _, _, _, _] _ lv_X13_156 (m_isWord (i := 16) (d := d - 1) hl (by omega) hs z5 hFF hW (by decide) (by decide +kernel)) (zSt_ob hs 74 13 rfl) rfl (by omega) (Nat.le_of_ble_eq_true rfl) rfl dX13_stepHere_116 (fun v6 J6 h6 => ?_)
              obtain ⟨rfl, f6, z6⟩ := h6
              refine zJ_if_eq 127 dX13_stepHere_119 (by decide) (fun c119 => ?_) (fun c119 => ?_)
              · replace c119 := zb0.mp c119
                refine zJ_iconst (v := -1) dX13_stepHere_127 rfl ?_
                refine zJ_iret rfl dX13_stepHere_128 ?_
                exact ⟨_, J6, rfl, rfl, by simp [c14, c31, c49, c67, c85, c101, c119], (ft_trans (ft_trans (ft_trans (ft_trans (ft_trans (ft_trans f0 f1) f2) f3) f4) f5) f6), z6⟩
              · replace c119 := zb1.mp c119
                refine zJ_bipush (v := nI 6) dX13_stepHere_122 rfl ?_
                refine zJ_goto 128 dX13_stepHere_124 (by decide) ?_
                refine zJ_iret rfl dX13_stepHere_128 ?_
                exact ⟨_, J6, rfl, rfl, by simp [c14, c31, c49, c67, c85, c101, c119], (ft_trans (ft_trans (ft_trans (ft_trans (ft_trans (ft_trans f0 f1) f2) f3) f4) f5) f6), z6⟩
            · replace c101 := zb1.mp c101
              refine zJ_iconst (v := nI 5) dX13_stepHere_104 rfl ?_
              refine zJ_iret rfl dX13_stepHere_105 ?_
              exact ⟨_, J5, rfl, rfl, by simp [c14, c31, c49, c67, c85, c101], (ft_trans (ft_trans (ft_trans (ft_trans (ft_trans f0 f1) f2) f3) f4) f5), z5⟩
          · replace c85 := zb1.mp c85
            refine zJ_iconst (v := nI 4) dX13_stepHere_88 rfl ?_
            refine zJ_iret rfl dX13_stepHere_89 ?_
            exact ⟨_, J4, rfl, rfl, by simp [c14, c31, c49, c67, c85], (ft_trans (ft_trans (ft_trans (ft_trans f0 f1) f2) f3) f4), z4⟩
        · replace c67 := zb1.mp c67
          refine zJ_iconst (v := nI 3) dX13_stepHere_70 rfl ?_
          refine zJ_iret rfl dX13_stepHere_71 ?_
          exact ⟨_, J3, rfl, rfl, by simp [c14, c31, c49, c67], (ft_trans (ft_trans (ft_trans f0 f1) f2) f3), z3⟩
      · replace c49 := zb1.mp c49
        refine zJ_iconst (v := nI 2) dX13_stepHere_52 rfl ?_
        refine zJ_iret rfl dX13_stepHere_53 ?_
        exact ⟨_, J2, rfl, rfl, by simp [c14, c31, c49], (ft_trans (ft_trans f0 f1) f2), z2⟩
    · replace c31 := zb1.mp c31
      refine zJ_iconst (v := nI 1) dX13_stepHere_34 rfl ?_
      refine zJ_iret rfl dX13_stepHere_35 ?_
      exact ⟨_, J1, rfl, rfl, by simp [c14, c31], (ft_trans f0 f1), z1⟩
  · replace c14 := zb1.mp c14
    refine zJ_iconst (v := nI 0) dX13_stepHere_17 rfl ?_
    refine zJ_iret rfl dX13_stepHere_18 ?_
    exact ⟨_, J0, rfl, rfl, by simp [c14], f0, z0⟩
theorem m_knownHere (hl : l.stackTraces = false) (hd : 6 ≤ d) (hs : zSt g) {bs : Nat → Nat} {L A F W : Nat} (h : rz I bs L A none) (hF : sk bs L A = F) (hW : sp (ltB bs) L F = W) : zEi l Xi mX13_knownHere d [.ref 74] I g (fun v J => v = (if kdN bs F W = 8 then -1 else nI (kdN bs F W)) ∧ ft I J ∧ rz J bs L (if kdN bs F W = 8 then F else W) none) := by
  refine zC_of hl rfl rfl rfl (Nat.le_of_ble_eq_true rfl) (zav_r (zSt_ob hs 74 13 rfl).1 zav_0) ?_
  have hFF : sk bs L F = F := by rw [← hF]; exact sk_sk
  unfold kdN
  refine zJ_aload_n dX13_knownHere_0 rfl ?_
  refine zJ_bipush (v := nI 16) dX13_knownHere_1 rfl ?_
  refine zJ_iconst (v := nI 1) dX13_knownHere_3 rfl ?_
  refine zJ_bipush (v := nI 19) dX13_knownHere_4 rfl ?_
  refine zJ_bipush (v := nI 20) dX13_knownHere_6 rfl ?_
  refine zJ_iconst (v := nI 0) dX13_knownHere_8 rfl ?_
  refine zJ_iconst (v := nI 0) dX13_knownHere_9 rfl ?_
  refine zP_ecallVi [_, _, _, _, _, _] _ lv_X13_242 (m_takes (i := 6) (d := d - 1) hl (by omega) hs h hF hW (by decide) (by decide +kernel)) (zSt_ob hs 74 13 rfl) rfl (by omega) (Nat.le_of_ble_eq_true rfl) rfl dX13_knownHere_10 (fun v0 J0 h0 => ?_)
  obtain ⟨rfl, f0, z0⟩ := h0
  refine zJ_if_eq 18 dX13_knownHere_13 (by decide) (fun c13 => ?_) (fun c13 => ?_)
  · replace c13 := zb0.mp c13
    refine zJ_aload_n dX13_knownHere_18 rfl ?_
    refine zJ_bipush (v := nI 15) dX13_knownHere_19 rfl ?_
    refine zJ_bipush (v := nI 22) dX13_knownHere_21 rfl ?_
    refine zJ_iconst (v := nI 5) dX13_knownHere_23 rfl ?_
    refine zJ_bipush (v := nI 18) dX13_knownHere_24 rfl ?_
    refine zJ_iconst (v := nI 0) dX13_knownHere_26 rfl ?_
    refine zJ_iconst (v := nI 0) dX13_knownHere_27 rfl ?_
    rw [c13, if_neg (by decide)] at z0
    refine zP_ecallVi [_, _, _, _, _, _] _ lv_X13_242 (m_takes (i := 7) (d := d - 1) hl (by omega) hs z0 hFF hW (by decide) (by decide +kernel)) (zSt_ob hs 74 13 rfl) rfl (by omega) (Nat.le_of_ble_eq_true rfl) rfl dX13_knownHere_28 (fun v1 J1 h1 => ?_)
    obtain ⟨rfl, f1, z1⟩ := h1
    refine zJ_if_eq 36 dX13_knownHere_31 (by decide) (fun c31 => ?_) (fun c31 => ?_)
    · replace c31 := zb0.mp c31
      refine zJ_aload_n dX13_knownHere_36 rfl ?_
      refine zJ_iconst (v := nI 3) dX13_knownHere_37 rfl ?_
      refine zJ_bipush (v := nI 18) dX13_knownHere_38 rfl ?_
      refine zJ_bipush (v := nI 9) dX13_knownHere_40 rfl ?_
      refine zJ_bipush (v := nI 20) dX13_knownHere_42 rfl ?_
      refine zJ_iconst (v := nI 0) dX13_knownHere_44 rfl ?_
      refine zJ_iconst (v := nI 0) dX13_knownHere_45 rfl ?_
      rw [c31, if_neg (by decide)] at z1
      refine zP_ecallVi [_, _, _, _, _, _] _ lv_X13_242 (m_takes (i := 8) (d := d - 1) hl (by omega) hs z1 hFF hW (by decide) (by decide +kernel)) (zSt_ob hs 74 13 rfl) rfl (by omega) (Nat.le_of_ble_eq_true rfl) rfl dX13_knownHere_46 (fun v2 J2 h2 => ?_)
      obtain ⟨rfl, f2, z2⟩ := h2
      refine zJ_if_eq 54 dX13_knownHere_49 (by decide) (fun c49 => ?_) (fun c49 => ?_)
      · replace c49 := zb0.mp c49
        refine zJ_aload_n dX13_knownHere_54 rfl ?_
        refine zJ_bipush (v := nI 18) dX13_knownHere_55 rfl ?_
        refine zJ_bipush (v := nI 15) dX13_knownHere_57 rfl ?_
        refine zJ_bipush (v := nI 21) dX13_knownHere_59 rfl ?_
        refine zJ_bipush (v := nI 14) dX13_knownHere_61 rfl ?_
        refine zJ_iconst (v := nI 4) dX13_knownHere_63 rfl ?_
        refine zJ_iconst (v := nI 0) dX13_knownHere_64 rfl ?_
        rw [c49, if_neg (by decide)] at z2
        refine zP_ecallVi [_, _, _, _, _, _] _ lv_X13_242 (m_takes (i := 9) (d := d - 1) hl (by omega) hs z2 hFF hW (by decide) (by decide +kernel)) (zSt_ob hs 74 13 rfl) rfl (by omega) (Nat.le_of_ble_eq_true rfl) rfl dX13_knownHere_65 (fun v3 J3 h3 => ?_)
        obtain ⟨rfl, f3, z3⟩ := h3
        refine zJ_if_eq 73 dX13_knownHere_68 (by decide) (fun c68 => ?_) (fun c68 => ?_)
        · replace c68 := zb0.mp c68
          refine zJ_aload_n dX13_knownHere_73 rfl ?_
          refine zJ_bipush (v := nI 23) dX13_knownHere_74 rfl ?_
          refine zJ_bipush (v := nI 9) dX13_knownHere_76 rfl ?_
          refine zJ_iconst (v := nI 4) dX13_knownHere_78 rfl ?_
          refine zJ_iconst (v := nI 5) dX13_knownHere_79 rfl ?_
          refine zJ_iconst (v := nI 0) dX13_knownHere_80 rfl ?_
          refine zJ_iconst (v := nI 0) dX13_knownHere_81 rfl ?_
          rw [c68, if_neg (by decide)] at z3
          refine zP_ecallVi [_, _, _, _, _, _] _ lv_X13_242 (m_takes (i := 2) (d := d - 1) hl (by omega) hs z3 hFF hW (by decide) (by decide +kernel)) (zSt_ob hs 74 13 rfl) rfl (by omega) (Nat.le_of_ble_eq_true rfl) rfl dX13_knownHere_82 (fun v4 J4 h4 => ?_)
          obtain ⟨rfl, f4, z4⟩ := h4
          refine zJ_if_eq 90 dX13_knownHere_85 (by decide) (fun c85 => ?_) (fun c85 => ?_)
          · replace c85 := zb0.mp c85
            refine zJ_aload_n dX13_knownHere_90 rfl ?_
            refine zJ_iconst (v := nI 3) dX13_knownHere_91 rfl ?_
            refine zJ_bipush (v := nI 15) dX13_knownHere_92 rfl ?_
            refine zJ_bipush (v := nI 12) dX13_knownHere_94 rfl ?_
            refine zJ_iconst (v := nI 0) dX13_knownHere_96 rfl ?_
            refine zJ_iconst (v := nI 0) dX13_knownHere_97 rfl ?_
            refine zJ_iconst (v := nI 0) dX13_knownHere_98 rfl ?_
            rw [c85, if_neg (by decide)] at z4
            refine zP_ecallVi [_, _, _, _, _, _] _ lv_X13_242 (m_takes (i := 10) (d := d - 1) hl (by omega) hs z4 hFF hW (by decide) (by decide +kernel)) (zSt_ob hs 74 13 rfl) rfl (by omega) (Nat.le_of_ble_eq_true rfl) rfl dX13_knownHere_99 (fun v5 J5 h5 => ?_)
            obtain ⟨rfl, f5, z5⟩ := h5
            refine zJ_if_eq 107 dX13_knownHere_102 (by decide) (fun c102 => ?_) (fun c102 => ?_)
            · replace c102 := zb0.mp c102
              refine zJ_aload_n dX13_knownHere_107 rfl ?_
              refine zJ_bipush (v := nI 18) dX13_knownHere_108 rfl ?_
              refine zJ_bipush (v := nI 15) dX13_knownHere_110 rfl ?_
              refine zJ_bipush (v := nI 23) dX13_knownHere_112 rfl ?_
              refine zJ_iconst (v := nI 0) dX13_knownHere_114 rfl ?_
              refine zJ_iconst (v := nI 0) dX13_knownHere_115 rfl ?_
              refine zJ_iconst (v := nI 0) dX13_knownHere_116 rfl ?_
              rw [c102, if_neg (by decide)] at z5
              refine zP_ecallVi [_, _, _, _, _, _] _ lv_X13_242 (m_takes (i := 11) (d := d - 1) hl (by omega) hs z5 hFF hW (by decide) (by decide +kernel)) (zSt_ob hs 74 13 rfl) rfl (by omega) (Nat.le_of_ble_eq_true rfl) rfl dX13_knownHere_117 (fun v6 J6 h6 => ?_)
              obtain ⟨rfl, f6, z6⟩ := h6
              refine zJ_if_eq 126 dX13_knownHere_120 (by decide) (fun c120 => ?_) (fun c120 => ?_)
              · replace c120 := zb0.mp c120
                refine zJ_aload_n dX13_knownHere_126 rfl ?_
                refine zJ_bipush (v := nI 16) dX13_knownHere_127 rfl ?_
                refine zJ_bipush (v := nI 9) dX13_knownHere_129 rfl ?_
                refine zJ_bipush (v := nI 14) dX13_knownHere_131 rfl ?_
                refine zJ_bipush (v := nI 19) dX13_knownHere_133 rfl ?_
                refine zJ_iconst (v := nI 0) dX13_knownHere_135 rfl ?_
                refine zJ_iconst (v := nI 0) dX13_knownHere_136 rfl ?_
                rw [c120, if_neg (by decide)] at z6
                refine zP_ecallVi [_, _, _, _, _, _] _ lv_X13_242 (m_takes (i := 12) (d := d - 1) hl (by omega) hs z6 hFF hW (by decide) (by decide +kernel)) (zSt_ob hs 74 13 rfl) rfl (by omega) (Nat.le_of_ble_eq_true rfl) rfl dX13_knownHere_137 (fun v7 J7 h7 => ?_)
                obtain ⟨rfl, f7, z7⟩ := h7
                refine zJ_if_eq 148 dX13_knownHere_140 (by decide) (fun c140 => ?_) (fun c140 => ?_)
                · replace c140 := zb0.mp c140
                  refine zJ_iconst (v := -1) dX13_knownHere_148 rfl ?_
                  refine zJ_iret rfl dX13_knownHere_149 ?_
                  exact ⟨_, J7, rfl, rfl, by simp [c13, c31, c49, c68, c85, c102, c120, c140], (ft_trans (ft_trans (ft_trans (ft_trans (ft_trans (ft_trans (ft_trans f0 f1) f2) f3) f4) f5) f6) f7), by simpa [c13, c31, c49, c68, c85, c102, c120, c140] using z7⟩
                · replace c140 := zb1.mp c140
                  refine zJ_bipush (v := nI 7) dX13_knownHere_143 rfl ?_
                  refine zJ_goto 149 dX13_knownHere_145 (by decide) ?_
                  refine zJ_iret rfl dX13_knownHere_149 ?_
                  exact ⟨_, J7, rfl, rfl, by simp [c13, c31, c49, c68, c85, c102, c120, c140], (ft_trans (ft_trans (ft_trans (ft_trans (ft_trans (ft_trans (ft_trans f0 f1) f2) f3) f4) f5) f6) f7), by simpa [c13, c31, c49, c68, c85, c102, c120, c140] using z7⟩
              · replace c120 := zb1.mp c120
                refine zJ_bipush (v := nI 6) dX13_knownHere_123 rfl ?_
                refine zJ_iret rfl dX13_knownHere_125 ?_
                exact ⟨_, J6, rfl, rfl, by simp [c13, c31, c49, c68, c85, c102, c120], (ft_trans (ft_trans (ft_trans (ft_trans (ft_trans (ft_trans f0 f1) f2) f3) f4) f5) f6), by simpa [c13, c31, c49, c68, c85, c102, c120] using z6⟩
            · replace c102 := zb1.mp c102
              refine zJ_iconst (v := nI 5) dX13_knownHere_105 rfl ?_
              refine zJ_iret rfl dX13_knownHere_106 ?_
              exact ⟨_, J5, rfl, rfl, by simp [c13, c31, c49, c68, c85, c102], (ft_trans (ft_trans (ft_trans (ft_trans (ft_trans f0 f1) f2) f3) f4) f5), by simpa [c13, c31, c49, c68, c85, c102] using z5⟩
          · replace c85 := zb1.mp c85
            refine zJ_iconst (v := nI 4) dX13_knownHere_88 rfl ?_
            refine zJ_iret rfl dX13_knownHere_89 ?_
            exact ⟨_, J4, rfl, rfl, by simp [c13, c31, c49, c68, c85], (ft_trans (ft_trans (ft_trans (ft_trans f0 f1) f2) f3) f4), by simpa [c13, c31, c49, c68, c85] using z4⟩
        · replace c68 := zb1.mp c68
          refine zJ_iconst (v := nI 3) dX13_knownHere_71 rfl ?_
          refine zJ_iret rfl dX13_knownHere_72 ?_
          exact ⟨_, J3, rfl, rfl, by simp [c13, c31, c49, c68], (ft_trans (ft_trans (ft_trans f0 f1) f2) f3), by simpa [c13, c31, c49, c68] using z3⟩
      · replace c49 := zb1.mp c49
        refine zJ_iconst (v := nI 2) dX13_knownHere_52 rfl ?_
        refine zJ_iret rfl dX13_knownHere_53 ?_
        exact ⟨_, J2, rfl, rfl, by simp [c13, c31, c49], (ft_trans (ft_trans f0 f1) f2), by simpa [c13, c31, c49] using z2⟩
    · replace c31 := zb1.mp c31
      refine zJ_iconst (v := nI 1) dX13_knownHere_34 rfl ?_
      refine zJ_iret rfl dX13_knownHere_35 ?_
      exact ⟨_, J1, rfl, rfl, by simp [c13, c31], (ft_trans f0 f1), by simpa [c13, c31] using z1⟩
  · replace c13 := zb1.mp c13
    refine zJ_iconst (v := nI 0) dX13_knownHere_16 rfl ?_
    refine zJ_iret rfl dX13_knownHere_17 ?_
    exact ⟨_, J0, rfl, rfl, by simp [c13], f0, by simpa [c13] using z0⟩
end ZRefAE
