/-! ===== Law: its text read ===== -/
section ZLawR
variable {l : Launch} {Xi : zXi} {d : Nat} {I : zI} {g : zG}
def lw (I : zI) (cs : List Int32) : Prop := I 25 3 = nI cs.length ∧ ∀ i, i < cs.length → I 27 i = cs.getD i 0
def fL (I J : zI) : Prop := ∀ a, a ≠ 1 → a ≠ 25 → a ≠ 27 → J a = I a
theorem fL_rfl : fL I I := fun _ _ _ _ => rfl
theorem fL_trans {J K : zI} (h : fL I J) (h2 : fL J K) : fL I K := fun a p q r => (h2 a p q r).trans (h a p q r)
theorem fL_fT {J : zI} (h : fT I J) : fL I J := fun a p _ _ => h a p
def lOk (J : zI) (bs : Nat → Nat) (L A F : Nat) (r : PR (List Int32)) : Prop := tX J bs L A F (toE r) ∧ (∃ n, n ≤ 150 ∧ J 25 3 = nI n) ∧ ∀ cs a, r = .inr (cs, a) → A = a ∧ lw J cs ∧ cs.length ≤ a
theorem lw_fT {J : zI} {cs : List Int32} (h : lw I cs) (hT : fT I J) : lw J cs := by
  unfold lw at *
  rw [hT 25 (by decide), hT 27 (by decide)]
  exact h
theorem lOk_eq {bs : Nat → Nat} {L A F : Nat} {r r' : PR (List Int32)} (h : lOk I bs L A F r) (e : r = r') : lOk I bs L A F r' := by rw [← e]; exact h
theorem lOk_needs {bs : Nat → Nat} {L A F : Nat} {cs : List Int32} (h : tX I bs L A F none) (h2 : lw I cs) (h3 : cs.length ≤ A) (h4 : cs.length ≤ 150) : lOk I bs L A F (.inr (cs, A)) := ⟨h, ⟨cs.length, h4, h2.1⟩, fun c a z => by cases z; exact ⟨rfl, h2, h3⟩⟩
theorem k_emit (hl : l.stackTraces = false) (hd : 1 ≤ d) (hs : zSt g) {bs : Nat → Nat} {L A F : Nat} {r : PR (List Int32)} {x : Int32} (h : lOk I bs L A F r) (hL : L ≤ 150) (hr : ∀ cs a, r = .inr (cs, a) → cs.length + 1 ≤ a) : zEv l Xi mX5_emit d [.ref 25, .int x] I g (fun J => fL I J ∧ lOk J bs L A F (pbind r fun cs A => .inr (cs ++ [x], A))) := by
  refine zC_of hl rfl rfl rfl (Nat.le_of_ble_eq_true rfl) (zav_r (zSt_ob hs 25 5 rfl).1 (zav_i zav_0)) ?_
  obtain ⟨h1, ⟨n, hn, hn2⟩, h3⟩ := h
  have hle := tX_le h1
  refine zJ_aload_n dX5_emit_0 rfl ?_
  refine zP_geti lf_X5_33 (zSt_ob hs 25 5 rfl) rfl dX5_emit_1 ?_
  refine zJ_aload_n dX5_emit_4 rfl ?_
  refine zP_getr lf_X5_15 (zSt_ob hs 25 5 rfl) rfl (zSt_rf hs 25 1 27 rfl) dX5_emit_5 ?_
  refine zP_alen (zSt_ar hs 27 150 rfl) dX5_emit_8 ?_
  rw [hn2]
  refine zJ_icmp_ge 32 dX5_emit_9 (by decide) (fun c9 => ?_) (fun c9 => ?_)
  · skip
    refine zJ_vret rfl dX5_emit_32 ?_
    have hn3 : 150 ≤ n := Nat.le_of_not_lt (fun z => absurd c9 (nI_ge z (by omega)))
    cases r with
    | inl q => exact ⟨rfl, I, rfl, fL_rfl, h1, ⟨n, hn, hn2⟩, fun cs a z => by cases z⟩
    | inr q =>
      obtain ⟨a1, a2, a3⟩ := h3 q.1 q.2 rfl
      have := hr q.1 q.2 rfl
      have e : n = q.1.length := (nI_eq (by omega) (by omega)).mp (hn2.symm.trans a2.1)
      omega
  · skip
    refine zJ_aload_n dX5_emit_12 rfl ?_
    refine zP_getr lf_X5_15 (zSt_ob hs 25 5 rfl) rfl (zSt_rf hs 25 1 27 rfl) dX5_emit_13 ?_
    refine zJ_aload_n dX5_emit_16 rfl ?_
    refine zP_geti lf_X5_33 (zSt_ob hs 25 5 rfl) rfl dX5_emit_17 ?_
    rw [hn2]
    refine zJ_iload_n dX5_emit_20 rfl ?_
    have hn3 : n < 150 := Nat.lt_of_not_le (fun z => c9 (nI_le z (by omega)))
    refine zP_iast (zSt_ar hs 27 150 rfl) (by first | assumption | with_reducible exact vp_in_nI (by omega) (by omega) | (simp (disch := omega) only [nI_add, pk_mul, pk_sub, pk_div, pk_rem, nI_clamp]; with_reducible exact vp_in_nI (by omega) (by omega))) dX5_emit_21 ?_
    refine zJ_aload_n dX5_emit_22 rfl ?_
    refine zJ_dup dX5_emit_23 rfl ?_
    refine zP_geti lf_X5_33 (zSt_ob hs 25 5 rfl) rfl dX5_emit_24 ?_
    rw [zup_row (by decide), hn2]
    refine zJ_iconst (v := nI 1) dX5_emit_27 rfl ?_
    refine zJ_iadd dX5_emit_28 ?_
    rw [nI_add]
    refine zP_puti lf_X5_33 (zSt_ob hs 25 5 rfl) rfl dX5_emit_29 ?_
    refine zJ_vret rfl dX5_emit_32 ?_
    have hn3 : n < 150 := Nat.lt_of_not_le (fun z => c9 (nI_le z (by omega)))
    rw [nI_clamp (by omega)]
    refine ⟨rfl, _, rfl, fun a p q s => by rw [zup_row q, zup_row s], ?_⟩
    have ht : tX (zup (zup I 27 n x) 25 3 (nI (n + 1))) bs L A F (toE r) := tX_of h1 (by rw [zup_row (by decide), zup_row (by decide)]) (by rw [zup_row (by decide), zup_row (by decide)])
    have hlen : zup (zup I 27 n x) 25 3 (nI (n + 1)) 25 3 = nI (n + 1) := by rw [zup_same, upd_at]
    cases r with
    | inl q => exact ⟨ht, ⟨n + 1, by omega, hlen⟩, fun cs a z => by cases z⟩
    | inr q =>
      obtain ⟨a1, a2, a3⟩ := h3 q.1 q.2 rfl
      have hb := hr q.1 q.2 rfl
      have e : n = q.1.length := (nI_eq (by omega) (by omega)).mp (hn2.symm.trans a2.1)
      refine ⟨ht, ⟨n + 1, by omega, hlen⟩, fun cs a z => ?_⟩
      simp only [pbind] at z
      cases z
      refine ⟨a1, ⟨by rw [hlen, List.length_append, e]; rfl, fun i hi => ?_⟩, by rw [List.length_append]; exact hb⟩
      rw [zup_row (by decide), zup_same]
      rw [List.length_append, List.length_singleton] at hi
      by_cases z : i = n
      · rw [z, upd_at, e, List.getD_eq_getElem?_getD, List.getElem?_append_right (Nat.le_refl _)]; simp
      · rw [upd_ne z, List.getD_eq_getElem?_getD, List.getElem?_append_left (by omega), ← List.getD_eq_getElem?_getD]; exact a2.2 i (by omega)
theorem k_needL (hl : l.stackTraces = false) (hd : 2 ≤ d) (hs : zSt g) {bs : Nat → Nat} {L A F c : Nat} {r : PR (List Int32)} (h : lOk I bs L A F r) (hc : c < 256) : zEv l Xi mX10_need d [.ref 1, .int (nI c)] I g (fun J => fL I J ∧ ∃ A' F', lOk J bs L A' F' (pbind r fun x A => pbind (pSign bs L c A) fun _ A => .inr (x, A))) := by
  refine zC_imp (k_need hl hd hs h.1 hc) (fun r' h' hp => ?_)
  obtain ⟨h1, J, h2, h3, h4⟩ := hp
  obtain ⟨n, hn, hn2⟩ := h.2.1
  have hg : A ≤ sk bs L A := sp_g
  refine ⟨h1, J, h2, fL_fT h3, (if hitB bs L (sk bs L A) c then sk bs L A + 1 else sk bs L A), sk bs L A, ?_, ⟨n, hn, by rw [h3 25 (by decide)]; exact hn2⟩, ?_⟩
  · cases r with
    | inl q => cases e : hitB bs L (sk bs L A) c <;> (rw [e] at h4; exact h4)
    | inr q =>
      have a1 := (h.2.2 q.1 q.2 rfl).1
      subst a1
      simp only [pbind]
      unfold pSign
      cases e : hitB bs L (sk bs L q.2) c <;> (rw [e] at h4; exact h4)
  · intro cs a z
    obtain ⟨x, a0, e0, z⟩ := pbind_ok z
    obtain ⟨u, a1, e1, z⟩ := pbind_ok z
    cases z
    obtain ⟨b1, b2, b3⟩ := h.2.2 _ _ e0
    subst b1
    have := pSign_ok e1
    unfold pSign at e1
    cases e : hitB bs L (sk bs L A) c with
    | true => rw [e] at e1; cases e1; exact ⟨rfl, lw_fT b2 h3, by omega⟩
    | false => rw [e] at e1; cases e1
theorem k_failL (hl : l.stackTraces = false) (hd : 1 ≤ d) (hs : zSt g) {bs : Nat → Nat} {L A F k w : Nat} {r : PR (List Int32)} {x : Int32} (h : lOk I bs L A F r) (hk : k ≤ 3) (hk1 : 1 ≤ k) (hx : x = nI w) : zEv l Xi mX10_fail d [.ref 1, .int (nI k), .int x] I g (fun J => fL I J ∧ lOk J bs L A F (pbind r fun _ _ => .inl (k, w))) := by
  refine zC_imp (k_fail hl hd hs h.1 hk hk1 hx) (fun r' h' hp => ?_)
  obtain ⟨h1, J, h2, h3, h4⟩ := hp
  obtain ⟨n, hn, hn2⟩ := h.2.1
  refine ⟨h1, J, h2, fL_fT h3, ?_, ⟨n, hn, by rw [h3 25 (by decide)]; exact hn2⟩, fun cs a z => by cases r <;> cases z⟩
  cases r with
  | inl q => exact h4
  | inr q => exact h4
theorem pNum_sk {bs : Nat → Nat} {L A lo hi : Nat} : pNum bs L lo hi (sk bs L A) = pNum bs L lo hi A := by
  unfold pNum nuX nuV nuE
  rw [sk_sk]
theorem pL_u {bs : Nat → Nat} {L f o A : Nat} : pL bs L (f + 1) 4 o A = if decide (sk bs L A < L) && dgB bs (sk bs L A) then pbind (pNum bs L 0 1000 A) fun v A => .inr ([nI v], A)
    else if hitB bs L (sk bs L A) 40 then (if 6 ≤ o then .inl (3, sk bs L A) else pbind (pL bs L f 0 (o + 1) (sk bs L A + 1)) fun c A => pbind (pSign bs L 41 A) fun _ A => .inr (c, A))
    else if wdB bs (sk bs L A) (woE bs L A) 13 || wdB bs (sk bs L A) (woE bs L A) 14 then
      (if 6 ≤ o then .inl (3, sk bs L A) else pbind (pSign bs L 91 (woE bs L A)) fun _ A1 => pbind (pL bs L f 0 (o + 1) A1) fun c A1 => pbind (pSign bs L 44 A1) fun _ A1 => pbind (pL bs L f 0 (o + 1) A1) fun c' A1 => pbind (pSign bs L 93 A1) fun _ A1 => .inr (c ++ c' ++ [if wdB bs (sk bs L A) (woE bs L A) 13 then nI 2005 else nI 2006], A1))
    else if kdN bs (sk bs L A) (woE bs L A) = 8 then .inl (1, sk bs L A) else .inr ([nI (1000 + kdN bs (sk bs L A) (woE bs L A))], woE bs L A) := by
  rw [pL, if_neg (by decide), if_neg (by decide), if_neg (by decide), if_neg (by decide)]
theorem k_readName (hl : l.stackTraces = false) (hd : 6 ≤ d) (hs : zSt g) {bs : Nat → Nat} {L A F : Nat} {cs : List Int32} (h : lOk I bs L A F (.inr (cs, A))) (hL : L ≤ 150) (hcs : cs.length ≤ F) : zEv l Xi mX5_readName d [.ref 25, .ref 1] I g (fun J => fL I J ∧ ∃ A' F', lOk J bs L A' F' (if kdN bs F A = 8 then .inl (1, F) else .inr (cs ++ [nI (1000 + kdN bs F A)], A))) := by
  refine zC_of hl rfl rfl rfl (Nat.le_of_ble_eq_true rfl) (zav_r (zSt_ob hs 25 5 rfl).1 (zav_r (zSt_ob hs 1 10 rfl).1 zav_0)) ?_
  have ht : tX I bs L A F none := h.1
  have h107 : ∀ k, k ≤ 8 → kdN bs F A = k → zJ l Xi mX5_readName d 0 0 107 [some (.ref 25), some (.ref 1), none] [.int (if k = 8 then -1 else nI k)] (I, g) (fun r' h' => r' = .inl none ∧ ∃ J, h' = (J, g) ∧ fL I J ∧ ∃ A' F', lOk J bs L A' F' (if kdN bs F A = 8 then .inl (1, F) else .inr (cs ++ [nI (1000 + kdN bs F A)], A))) := by
    intro k hk hk2
    by_cases e : k = 8
    · rw [if_pos e, hk2, if_pos e]
      refine zJ_istore_m 2 dX5_readName_107 rfl (Nat.le_of_ble_eq_true rfl) (by decide) ?_
      refine zJ_iload_n dX5_readName_108 rfl ?_
      refine zJ_iconst (v := -1) dX5_readName_109 rfl ?_
      refine zJ_icmp_ne 125 dX5_readName_110 (by decide) (fun c110 => absurd rfl c110) (fun _ => ?_)
      refine zJ_aload_n dX5_readName_113 rfl ?_
      refine zJ_iconst (v := nI 1) dX5_readName_114 rfl ?_
      refine zJ_aload_n dX5_readName_115 rfl ?_
      refine zP_geti lf_X5_50 (zSt_ob hs 1 10 rfl) rfl dX5_readName_116 ?_
      refine zP_ecallVv [_, _] _ lv_X5_53 (k_failL (w := F) (d := d - 1) hl (by omega) hs h (by omega) (by omega) (tX_fr ht)) (zSt_ob hs 1 10 rfl) rfl (by omega) (Nat.le_of_ble_eq_true rfl) rfl dX5_readName_119 (fun J hJ => ?_)
      refine zJ_goto 134 dX5_readName_122 (by decide) ?_
      refine zJ_vret rfl dX5_readName_134 ?_
      exact ⟨rfl, J, rfl, hJ.1, A, F, hJ.2⟩
    · have hlen := (kdN_len (bs := bs) (a := F) (w := A) (by rw [hk2]; exact e)).1
      rw [if_neg e, hk2, if_neg e]
      refine zJ_istore_m 2 dX5_readName_107 rfl (Nat.le_of_ble_eq_true rfl) (by decide) ?_
      refine zJ_iload_n dX5_readName_108 rfl ?_
      refine zJ_iconst (v := -1) dX5_readName_109 rfl ?_
      refine zJ_icmp_ne 125 dX5_readName_110 (by decide) (fun _ => ?_) (fun c110 => absurd c110 (nI_ne1 (by omega)))
      refine zJ_aload_n dX5_readName_125 rfl ?_
      refine zJ_sipush (v := nI 1000) dX5_readName_126 rfl ?_
      refine zJ_iload_n dX5_readName_129 rfl ?_
      refine zJ_iadd dX5_readName_130 ?_
      rw [nI_add]
      refine zP_ecallVv [_] _ lv_X5_64 (k_emit (d := d - 1) hl (by omega) hs h hL (fun c a z => by cases z; omega)) (zSt_ob hs 25 5 rfl) rfl (by omega) (Nat.le_of_ble_eq_true rfl) rfl dX5_readName_131 (fun J hJ => ?_)
      refine zJ_vret rfl dX5_readName_134 ?_
      exact ⟨rfl, J, rfl, hJ.1, A, F, hJ.2⟩
  refine zJ_aload_n dX5_readName_0 rfl ?_
  refine zJ_ldcS (num := 10 + 6) (tx := "past") (List.mem_of_getElem? (i := 6) rfl) dX5_readName_1 ?_
  refine zP_callVi [_] _ lv_X5_90 (k_wordIs (i := 6) (d := d - 1) hl (by omega) hs ht (by decide)) (zSt_ob hs 1 10 rfl) rfl (by omega) (Nat.le_of_ble_eq_true rfl) rfl dX5_readName_3 ?_
  refine zJ_if_eq 13 dX5_readName_6 (by decide) (fun c6 => ?_) (fun c6 => ?_)
  · replace c6 := zb0.mp c6
    refine zJ_aload_n dX5_readName_13 rfl ?_
    refine zJ_ldcS (num := 10 + 7) (tx := "over") (List.mem_of_getElem? (i := 7) rfl) dX5_readName_14 ?_
    refine zP_callVi [_] _ lv_X5_90 (k_wordIs (i := 7) (d := d - 1) hl (by omega) hs ht (by decide)) (zSt_ob hs 1 10 rfl) rfl (by omega) (Nat.le_of_ble_eq_true rfl) rfl dX5_readName_16 ?_
    refine zJ_if_eq 26 dX5_readName_19 (by decide) (fun c19 => ?_) (fun c19 => ?_)
    · replace c19 := zb0.mp c19
      refine zJ_aload_n dX5_readName_26 rfl ?_
      refine zJ_ldcS (num := 10 + 8) (tx := "crit") (List.mem_of_getElem? (i := 8) rfl) dX5_readName_27 ?_
      refine zP_callVi [_] _ lv_X5_90 (k_wordIs (i := 8) (d := d - 1) hl (by omega) hs ht (by decide)) (zSt_ob hs 1 10 rfl) rfl (by omega) (Nat.le_of_ble_eq_true rfl) rfl dX5_readName_29 ?_
      refine zJ_if_eq 39 dX5_readName_32 (by decide) (fun c32 => ?_) (fun c32 => ?_)
      · replace c32 := zb0.mp c32
        refine zJ_aload_n dX5_readName_39 rfl ?_
        refine zJ_ldcS (num := 10 + 9) (tx := "round") (List.mem_of_getElem? (i := 9) rfl) dX5_readName_40 ?_
        refine zP_callVi [_] _ lv_X5_90 (k_wordIs (i := 9) (d := d - 1) hl (by omega) hs ht (by decide)) (zSt_ob hs 1 10 rfl) rfl (by omega) (Nat.le_of_ble_eq_true rfl) rfl dX5_readName_42 ?_
        refine zJ_if_eq 52 dX5_readName_45 (by decide) (fun c45 => ?_) (fun c45 => ?_)
        · replace c45 := zb0.mp c45
          refine zJ_aload_n dX5_readName_52 rfl ?_
          refine zJ_ldcS (num := 10 + 2) (tx := "wide") (List.mem_of_getElem? (i := 10) rfl) dX5_readName_53 ?_
          refine zP_callVi [_] _ lv_X5_90 (k_wordIs (i := 2) (d := d - 1) hl (by omega) hs ht (by decide)) (zSt_ob hs 1 10 rfl) rfl (by omega) (Nat.le_of_ble_eq_true rfl) rfl dX5_readName_55 ?_
          refine zJ_if_eq 65 dX5_readName_58 (by decide) (fun c58 => ?_) (fun c58 => ?_)
          · replace c58 := zb0.mp c58
            refine zJ_aload_n dX5_readName_65 rfl ?_
            refine zJ_ldcS (num := 10 + 10) (tx := "col") (List.mem_of_getElem? (i := 11) rfl) dX5_readName_66 ?_
            refine zP_callVi [_] _ lv_X5_90 (k_wordIs (i := 10) (d := d - 1) hl (by omega) hs ht (by decide)) (zSt_ob hs 1 10 rfl) rfl (by omega) (Nat.le_of_ble_eq_true rfl) rfl dX5_readName_68 ?_
            refine zJ_if_eq 78 dX5_readName_71 (by decide) (fun c71 => ?_) (fun c71 => ?_)
            · replace c71 := zb0.mp c71
              refine zJ_aload_n dX5_readName_78 rfl ?_
              refine zJ_ldcS (num := 10 + 11) (tx := "row") (List.mem_of_getElem? (i := 12) rfl) dX5_readName_79 ?_
              refine zP_callVi [_] _ lv_X5_90 (k_wordIs (i := 11) (d := d - 1) hl (by omega) hs ht (by decide)) (zSt_ob hs 1 10 rfl) rfl (by omega) (Nat.le_of_ble_eq_true rfl) rfl dX5_readName_81 ?_
              refine zJ_if_eq 92 dX5_readName_84 (by decide) (fun c84 => ?_) (fun c84 => ?_)
              · replace c84 := zb0.mp c84
                refine zJ_aload_n dX5_readName_92 rfl ?_
                refine zJ_ldcS (num := 10 + 12) (tx := "pins") (List.mem_of_getElem? (i := 13) rfl) dX5_readName_93 ?_
                refine zP_callVi [_] _ lv_X5_90 (k_wordIs (i := 12) (d := d - 1) hl (by omega) hs ht (by decide)) (zSt_ob hs 1 10 rfl) rfl (by omega) (Nat.le_of_ble_eq_true rfl) rfl dX5_readName_95 ?_
                refine zJ_if_eq 106 dX5_readName_98 (by decide) (fun c98 => ?_) (fun c98 => ?_)
                · replace c98 := zb0.mp c98
                  refine zJ_iconst (v := -1) dX5_readName_106 rfl ?_
                  exact h107 8 (by omega) (by simp [kdN, c6, c19, c32, c45, c58, c71, c84, c98])
                · replace c98 := zb1.mp c98
                  refine zJ_bipush (v := nI 7) dX5_readName_101 rfl ?_
                  refine zJ_goto 107 dX5_readName_103 (by decide) ?_
                  exact h107 7 (by omega) (by simp [kdN, c6, c19, c32, c45, c58, c71, c84, c98])
              · replace c84 := zb1.mp c84
                refine zJ_bipush (v := nI 6) dX5_readName_87 rfl ?_
                refine zJ_goto 107 dX5_readName_89 (by decide) ?_
                exact h107 6 (by omega) (by simp [kdN, c6, c19, c32, c45, c58, c71, c84])
            · replace c71 := zb1.mp c71
              refine zJ_iconst (v := nI 5) dX5_readName_74 rfl ?_
              refine zJ_goto 107 dX5_readName_75 (by decide) ?_
              exact h107 5 (by omega) (by simp [kdN, c6, c19, c32, c45, c58, c71])
          · replace c58 := zb1.mp c58
            refine zJ_iconst (v := nI 4) dX5_readName_61 rfl ?_
            refine zJ_goto 107 dX5_readName_62 (by decide) ?_
            exact h107 4 (by omega) (by simp [kdN, c6, c19, c32, c45, c58])
        · replace c45 := zb1.mp c45
          refine zJ_iconst (v := nI 3) dX5_readName_48 rfl ?_
          refine zJ_goto 107 dX5_readName_49 (by decide) ?_
          exact h107 3 (by omega) (by simp [kdN, c6, c19, c32, c45])
      · replace c32 := zb1.mp c32
        refine zJ_iconst (v := nI 2) dX5_readName_35 rfl ?_
        refine zJ_goto 107 dX5_readName_36 (by decide) ?_
        exact h107 2 (by omega) (by simp [kdN, c6, c19, c32])
    · replace c19 := zb1.mp c19
      refine zJ_iconst (v := nI 1) dX5_readName_22 rfl ?_
      refine zJ_goto 107 dX5_readName_23 (by decide) ?_
      exact h107 1 (by omega) (by simp [kdN, c6, c19])
  · replace c6 := zb1.mp c6
    refine zJ_iconst (v := nI 0) dX5_readName_9 rfl ?_
    refine zJ_goto 107 dX5_readName_10 (by decide) ?_
    exact h107 0 (by omega) (by simp [kdN, c6])
def cLaw (l : Launch) (Xi : zXi) (g : zG) (M : zM) (k m f : Nat) : Prop := ∀ (o d : Nat) (I : zI) (bs : Nat → Nat) (L A F : Nat) (r : PR (List Int32)), o ≤ 6 → 5 * (6 - o) + k ≤ d → L ≤ 150 → lOk I bs L A F r → (∀ cs a, r = .inr (cs, a) → pL bs L f m o a ≠ .inl (0, 0)) → zEv l Xi M d [.ref 25, .ref 1, .int (nI o)] I g (fun J => fL I J ∧ ∃ A' F', lOk J bs L A' F' (pbind r fun cs A => pbind (pL bs L f m o A) fun c A => .inr (cs ++ c, A)))
theorem k_readInside (hl : l.stackTraces = false) (hs : zSt g) {f o : Nat} {bs : Nat → Nat} {L A F : Nat} {r : PR (List Int32)} (hS : cLaw l Xi g mX5_readSum 9 0 f) (ho : o ≤ 6) (hd : 5 * (6 - o) + 5 ≤ d) (hL : L ≤ 150) (h : lOk I bs L A F r) (hr : ∀ cs a, r = .inr (cs, a) → o < 6 → pL bs L f 0 (o + 1) a ≠ .inl (0, 0)) : zEv l Xi mX5_readInside d [.ref 25, .ref 1, .int (nI o)] I g (fun J => fL I J ∧ ∃ A' F', lOk J bs L A' F' (pbind r fun cs A => if 6 ≤ o then .inl (3, F) else pbind (pL bs L f 0 (o + 1) A) fun c A => .inr (cs ++ c, A))) := by
  refine zC_of hl rfl rfl rfl (Nat.le_of_ble_eq_true rfl) (zav_r (zSt_ob hs 25 5 rfl).1 (zav_r (zSt_ob hs 1 10 rfl).1 (zav_i zav_0))) ?_
  by_cases e : 6 ≤ o
  · simp only [if_pos e]
    refine zJ_iload_n dX5_readInside_0 rfl ?_
    refine zJ_bipush (v := nI 6) dX5_readInside_1 rfl ?_
    refine zJ_icmp_lt 16 dX5_readInside_3 (by decide) (fun c3 => absurd c3 (nI_nlt e (by omega))) (fun _ => ?_)
    refine zJ_aload_n dX5_readInside_6 rfl ?_
    refine zJ_iconst (v := nI 3) dX5_readInside_7 rfl ?_
    refine zJ_aload_n dX5_readInside_8 rfl ?_
    refine zP_geti lf_X5_50 (zSt_ob hs 1 10 rfl) rfl dX5_readInside_9 ?_
    refine zP_ecallVv [_, _] _ lv_X5_53 (k_failL (w := F) (d := d - 1) hl (by omega) hs h (by omega) (by omega) (tX_fr h.1)) (zSt_ob hs 1 10 rfl) rfl (by omega) (Nat.le_of_ble_eq_true rfl) rfl dX5_readInside_12 (fun J hJ => ?_)
    refine zJ_vret rfl dX5_readInside_15 ?_
    exact ⟨rfl, J, rfl, hJ.1, A, F, hJ.2⟩
  · simp only [if_neg e]
    refine zJ_iload_n dX5_readInside_0 rfl ?_
    refine zJ_bipush (v := nI 6) dX5_readInside_1 rfl ?_
    refine zJ_icmp_lt 16 dX5_readInside_3 (by decide) (fun _ => ?_) (fun c3 => absurd (nI_lt (by omega) (by omega)) c3)
    refine zJ_aload_n dX5_readInside_16 rfl ?_
    refine zJ_aload_n dX5_readInside_17 rfl ?_
    refine zJ_iload_n dX5_readInside_18 rfl ?_
    refine zJ_iconst (v := nI 1) dX5_readInside_19 rfl ?_
    refine zJ_iadd dX5_readInside_20 ?_
    rw [nI_add]
    refine zP_ecallVv [_, _] _ lv_X5_37 (hS (o + 1) (d - 1) I bs L A F r (by omega) (by omega) hL h (fun cs a z => hr cs a z (by omega))) (zSt_ob hs 25 5 rfl) rfl (by omega) (Nat.le_of_ble_eq_true rfl) rfl dX5_readInside_21 (fun J hJ => ?_)
    refine zJ_vret rfl dX5_readInside_24 ?_
    exact ⟨rfl, J, rfl, hJ⟩
theorem k_readPair (hl : l.stackTraces = false) (hs : zSt g) {f o : Nat} {bs : Nat → Nat} {L A F : Nat} {cs : List Int32} {x : Int32} (hS : cLaw l Xi g mX5_readSum 9 0 f) (ho : o ≤ 6) (hd : 5 * (6 - o) + 6 ≤ d) (hL : L ≤ 150) (h : lOk I bs L A F (.inr (cs, A))) (hr : o < 6 → (pbind (pSign bs L 91 A) fun _ A1 => pbind (pL bs L f 0 (o + 1) A1) fun c A1 => pbind (pSign bs L 44 A1) fun _ A1 => pbind (pL bs L f 0 (o + 1) A1) fun c' A1 => pbind (pSign bs L 93 A1) fun _ A1 => .inr (c ++ c' ++ [x], A1)) ≠ .inl (0, 0)) : zEv l Xi mX5_readPair d [.ref 25, .ref 1, .int (nI o), .int x] I g (fun J => fL I J ∧ ∃ A' F', lOk J bs L A' F' (if 6 ≤ o then .inl (3, F) else pbind (pSign bs L 91 A) fun _ A1 => pbind (pL bs L f 0 (o + 1) A1) fun c A1 => pbind (pSign bs L 44 A1) fun _ A1 => pbind (pL bs L f 0 (o + 1) A1) fun c' A1 => pbind (pSign bs L 93 A1) fun _ A1 => .inr (cs ++ (c ++ c' ++ [x]), A1))) := by
  refine zC_of hl rfl rfl rfl (Nat.le_of_ble_eq_true rfl) (zav_r (zSt_ob hs 25 5 rfl).1 (zav_r (zSt_ob hs 1 10 rfl).1 (zav_i (zav_i zav_0)))) ?_
  have hle := tX_le h.1
  by_cases e : 6 ≤ o
  · rw [if_pos e]
    refine zJ_iload_n dX5_readPair_0 rfl ?_
    refine zJ_bipush (v := nI 6) dX5_readPair_1 rfl ?_
    refine zJ_icmp_lt 16 dX5_readPair_3 (by decide) (fun c3 => absurd c3 (nI_nlt e (by omega))) (fun _ => ?_)
    refine zJ_aload_n dX5_readPair_6 rfl ?_
    refine zJ_iconst (v := nI 3) dX5_readPair_7 rfl ?_
    refine zJ_aload_n dX5_readPair_8 rfl ?_
    refine zP_geti lf_X5_50 (zSt_ob hs 1 10 rfl) rfl dX5_readPair_9 ?_
    refine zP_ecallVv [_, _] _ lv_X5_53 (k_failL (w := F) (d := d - 1) hl (by omega) hs h (by omega) (by omega) (tX_fr h.1)) (zSt_ob hs 1 10 rfl) rfl (by omega) (Nat.le_of_ble_eq_true rfl) rfl dX5_readPair_12 (fun J hJ => ?_)
    refine zJ_vret rfl dX5_readPair_15 ?_
    exact ⟨rfl, J, rfl, hJ.1, A, F, hJ.2⟩
  · rw [if_neg e]
    have hr' := hr (by omega)
    refine zJ_iload_n dX5_readPair_0 rfl ?_
    refine zJ_bipush (v := nI 6) dX5_readPair_1 rfl ?_
    refine zJ_icmp_lt 16 dX5_readPair_3 (by decide) (fun _ => ?_) (fun c3 => absurd (nI_lt (by omega) (by omega)) c3)
    refine zJ_aload_n dX5_readPair_16 rfl ?_
    refine zJ_bipush (v := nI 91) dX5_readPair_17 rfl ?_
    refine zP_ecallVv [_] _ lv_X5_81 (k_needL (d := d - 1) hl (by omega) hs h (by omega)) (zSt_ob hs 1 10 rfl) rfl (by omega) (Nat.le_of_ble_eq_true rfl) rfl dX5_readPair_19 (fun J1 hJ1 => ?_)
    obtain ⟨f1, A1, F1, h1⟩ := hJ1
    refine zJ_aload_n dX5_readPair_22 rfl ?_
    refine zJ_aload_n dX5_readPair_23 rfl ?_
    refine zJ_iload_n dX5_readPair_24 rfl ?_
    refine zP_ecallVv [_, _] _ lv_X5_78 (k_readInside (d := d - 1) hl hs hS ho (by omega) hL h1 (fun cs1 a1 z _ => by obtain ⟨u, a, z1, z2⟩ := pbind_ok z; cases z1; obtain ⟨u, a2, z3, z4⟩ := pbind_ok z2; cases z4; exact fun y => hr' (by rw [z3]; simp only [pbind]; rw [y]))) (zSt_ob hs 25 5 rfl) rfl (by omega) (Nat.le_of_ble_eq_true rfl) rfl dX5_readPair_25 (fun J2 hJ2 => ?_)
    obtain ⟨f2, A2, F2, h2⟩ := hJ2
    simp only [if_neg e] at h2
    refine zJ_aload_n dX5_readPair_28 rfl ?_
    refine zJ_bipush (v := nI 44) dX5_readPair_29 rfl ?_
    refine zP_ecallVv [_] _ lv_X5_81 (k_needL (d := d - 1) hl (by omega) hs h2 (by omega)) (zSt_ob hs 1 10 rfl) rfl (by omega) (Nat.le_of_ble_eq_true rfl) rfl dX5_readPair_31 (fun J3 hJ3 => ?_)
    obtain ⟨f3, A3, F3, h3⟩ := hJ3
    refine zJ_aload_n dX5_readPair_34 rfl ?_
    refine zJ_aload_n dX5_readPair_35 rfl ?_
    refine zJ_iload_n dX5_readPair_36 rfl ?_
    refine zP_ecallVv [_, _] _ lv_X5_78 (k_readInside (d := d - 1) hl hs hS ho (by omega) hL h3 (fun cs3 a3 z _ => by simp only [pbind_assoc, pbind_inr] at z; obtain ⟨u, a, z1, z2⟩ := pbind_ok z; obtain ⟨c1, a2, z3, z4⟩ := pbind_ok z2; obtain ⟨u2, a4, z5, z6⟩ := pbind_ok z4; cases z6; exact fun y => hr' (by rw [z1]; simp only [pbind]; rw [z3]; simp only []; rw [z5]; simp only []; rw [y]))) (zSt_ob hs 25 5 rfl) rfl (by omega) (Nat.le_of_ble_eq_true rfl) rfl dX5_readPair_37 (fun J4 hJ4 => ?_)
    obtain ⟨f4, A4, F4, h4⟩ := hJ4
    simp only [if_neg e] at h4
    refine zJ_aload_n dX5_readPair_40 rfl ?_
    refine zJ_bipush (v := nI 93) dX5_readPair_41 rfl ?_
    refine zP_ecallVv [_] _ lv_X5_81 (k_needL (d := d - 1) hl (by omega) hs h4 (by omega)) (zSt_ob hs 1 10 rfl) rfl (by omega) (Nat.le_of_ble_eq_true rfl) rfl dX5_readPair_43 (fun J5 hJ5 => ?_)
    obtain ⟨f5, A5, F5, h5⟩ := hJ5
    have hle1 := tX_le h1.1
    have hle3 := tX_le h3.1
    refine zJ_aload_n dX5_readPair_46 rfl ?_
    refine zJ_iload_n dX5_readPair_47 rfl ?_
    refine zP_ecallVv [_] _ lv_X5_64 (k_emit (d := d - 1) hl (by omega) hs h5 hL (fun c5 a5 z => by simp only [pbind_assoc, pbind_inr] at z; obtain ⟨u, a, z1, z2⟩ := pbind_ok z; obtain ⟨c1, a2, z3, z4⟩ := pbind_ok z2; obtain ⟨u2, a4, z5, z6⟩ := pbind_ok z4; obtain ⟨c6, a6, z7, z8⟩ := pbind_ok z6; obtain ⟨u9, a9, z9, z10⟩ := pbind_ok z8; cases z10; have p1 := pSign_ok z1; have p2 := pL_ok z3 p1.2; have p3 := pSign_ok z5; have p4 := pL_ok z7 p3.2; have p5 := pSign_ok z9; have p6 := (h.2.2 _ _ rfl).2.2; simp only [List.length_append]; omega)) (zSt_ob hs 25 5 rfl) rfl (by omega) (Nat.le_of_ble_eq_true rfl) rfl dX5_readPair_48 (fun J6 hJ6 => ?_)
    refine zJ_vret rfl dX5_readPair_51 ?_
    refine ⟨rfl, J6, rfl, fL_trans f1 (fL_trans f2 (fL_trans f3 (fL_trans f4 (fL_trans f5 hJ6.1)))), A5, F5, lOk_eq hJ6.2 ?_⟩
    simp only [pbind_assoc, pbind_inr, List.append_assoc]
end ZLawR
