/-! ===== Board: a clause, the whole text ===== -/
section ZBread2
variable {l : Launch} {Xi : zXi} {d : Nat} {I : zI} {g : zG}
theorem kd_cases {bs : Nat → Nat} {a w : Nat} :
    (kdC bs a w = 0 ∧ wdB bs a w 0 = true ∧ wdB bs a w 1 = false ∧ wdB bs a w 2 = false ∧ wdB bs a w 3 = false ∧ wdB bs a w 4 = false ∧ wdB bs a w 5 = false) ∨ (kdC bs a w = 1 ∧ wdB bs a w 0 = false ∧ wdB bs a w 1 = true ∧ wdB bs a w 2 = false ∧ wdB bs a w 3 = false ∧ wdB bs a w 4 = false ∧ wdB bs a w 5 = false) ∨ (kdC bs a w = 2 ∧ wdB bs a w 0 = false ∧ wdB bs a w 1 = false ∧ wdB bs a w 2 = true ∧ wdB bs a w 3 = false ∧ wdB bs a w 4 = false ∧ wdB bs a w 5 = false) ∨ (kdC bs a w = 3 ∧ wdB bs a w 0 = false ∧ wdB bs a w 1 = false ∧ wdB bs a w 2 = false ∧ wdB bs a w 3 = true ∧ wdB bs a w 4 = false ∧ wdB bs a w 5 = false) ∨ (kdC bs a w = 4 ∧ wdB bs a w 0 = false ∧ wdB bs a w 1 = false ∧ wdB bs a w 2 = false ∧ wdB bs a w 3 = false ∧ wdB bs a w 4 = true ∧ wdB bs a w 5 = false) ∨ (kdC bs a w = 5 ∧ wdB bs a w 0 = false ∧ wdB bs a w 1 = false ∧ wdB bs a w 2 = false ∧ wdB bs a w 3 = false ∧ wdB bs a w 4 = false ∧ wdB bs a w 5 = true) ∨ (kdC bs a w = 6 ∧ wdB bs a w 0 = false ∧ wdB bs a w 1 = false ∧ wdB bs a w 2 = false ∧ wdB bs a w 3 = false ∧ wdB bs a w 4 = false ∧ wdB bs a w 5 = false) := by
  cases h0 : wdB bs a w 0 with
  | true =>
    have h1 := wd_no (by decide) (by decide) h0 (show 0 ≠ 1 by decide)
    have h2 := wd_no (by decide) (by decide) h0 (show 0 ≠ 2 by decide)
    have h3 := wd_no (by decide) (by decide) h0 (show 0 ≠ 3 by decide)
    have h4 := wd_no (by decide) (by decide) h0 (show 0 ≠ 4 by decide)
    have h5 := wd_no (by decide) (by decide) h0 (show 0 ≠ 5 by decide)
    rw [h1]
    rw [h2]
    rw [h3]
    rw [h4]
    rw [h5]
    exact Or.inl ⟨by simp [kdC, h0], rfl, rfl, rfl, rfl, rfl, rfl⟩
  | false =>
    cases h1 : wdB bs a w 1 with
    | true =>
      have h2 := wd_no (by decide) (by decide) h1 (show 1 ≠ 2 by decide)
      have h3 := wd_no (by decide) (by decide) h1 (show 1 ≠ 3 by decide)
      have h4 := wd_no (by decide) (by decide) h1 (show 1 ≠ 4 by decide)
      have h5 := wd_no (by decide) (by decide) h1 (show 1 ≠ 5 by decide)
      rw [h2]
      rw [h3]
      rw [h4]
      rw [h5]
      exact Or.inr (Or.inl ⟨by simp [kdC, h0, h1], rfl, rfl, rfl, rfl, rfl, rfl⟩)
    | false =>
      cases h2 : wdB bs a w 2 with
      | true =>
        have h3 := wd_no (by decide) (by decide) h2 (show 2 ≠ 3 by decide)
        have h4 := wd_no (by decide) (by decide) h2 (show 2 ≠ 4 by decide)
        have h5 := wd_no (by decide) (by decide) h2 (show 2 ≠ 5 by decide)
        rw [h3]
        rw [h4]
        rw [h5]
        exact Or.inr (Or.inr (Or.inl ⟨by simp [kdC, h0, h1, h2], rfl, rfl, rfl, rfl, rfl, rfl⟩))
      | false =>
        cases h3 : wdB bs a w 3 with
        | true =>
          have h4 := wd_no (by decide) (by decide) h3 (show 3 ≠ 4 by decide)
          have h5 := wd_no (by decide) (by decide) h3 (show 3 ≠ 5 by decide)
          rw [h4]
          rw [h5]
          exact Or.inr (Or.inr (Or.inr (Or.inl ⟨by simp [kdC, h0, h1, h2, h3], rfl, rfl, rfl, rfl, rfl, rfl⟩)))
        | false =>
          cases h4 : wdB bs a w 4 with
          | true =>
            have h5 := wd_no (by decide) (by decide) h4 (show 4 ≠ 5 by decide)
            rw [h5]
            exact Or.inr (Or.inr (Or.inr (Or.inr (Or.inl ⟨by simp [kdC, h0, h1, h2, h3, h4], rfl, rfl, rfl, rfl, rfl, rfl⟩))))
          | false =>
            cases h5 : wdB bs a w 5 with
            | true =>
              exact Or.inr (Or.inr (Or.inr (Or.inr (Or.inr (Or.inl ⟨by simp [kdC, h0, h1, h2, h3, h4, h5], rfl, rfl, rfl, rfl, rfl, rfl⟩)))))
            | false =>
               exact Or.inr (Or.inr (Or.inr (Or.inr (Or.inr (Or.inr (⟨by simp [kdC, h0, h1, h2, h3, h4, h5], rfl, rfl, rfl, rfl, rfl, rfl⟩))))))
theorem cRb_sz {x y : Nat} {r : zRb} (h : cRb I 12 r) : cRb (zup (zup I 12 0 (nI x)) 12 1 (nI y)) 12 ((x, y, rN r, rG r), r.2) := by
  obtain ⟨⟨h1, h2, h3, h4⟩, h5⟩ := h
  have k : ∀ a, a ≠ 12 → zup (zup I 12 0 (nI x)) 12 1 (nI y) a = I a := fun a p => by rw [zup_row p, zup_row p]
  refine ⟨⟨?_, ?_, ?_, ?_⟩, ?_⟩
  · rw [zup_same, upd_ne (by decide), zup_same, upd_at]; rfl
  · rw [zup_same, upd_at]; rfl
  · rw [zup_same, upd_ne (by decide), zup_same, upd_ne (by decide)]; exact h3
  · rw [zup_same, upd_ne (by decide), zup_same, upd_ne (by decide)]; exact h4
  · rw [k (12 + 1) (by decide), k (12 + 2) (by decide), k (12 + 3) (by decide), k (12 + 4) (by decide), k (12 + 5) (by decide), k (12 + 6) (by decide), k (12 + 7) (by decide)]; exact h5
theorem cRb_gn {v : Nat} {r : zRb} (h : cRb I 12 r) : cRb (zup I 12 3 (nI v)) 12 ((rC r, rR r, rN r, v), r.2) := by
  obtain ⟨⟨h1, h2, h3, h4⟩, h5⟩ := h
  have k : ∀ a, a ≠ 12 → zup I 12 3 (nI v) a = I a := fun a p => by rw [zup_row p]
  refine ⟨⟨?_, ?_, ?_, ?_⟩, ?_⟩
  · rw [zup_same, upd_ne (by decide)]; exact h1
  · rw [zup_same, upd_ne (by decide)]; exact h2
  · rw [zup_same, upd_ne (by decide)]; exact h3
  · rw [zup_same, upd_at]; rfl
  · rw [k (12 + 1) (by decide), k (12 + 2) (by decide), k (12 + 3) (by decide), k (12 + 4) (by decide), k (12 + 5) (by decide), k (12 + 6) (by decide), k (12 + 7) (by decide)]; exact h5
theorem cRb_nt {J K : zI} {c m : Nat} {r : zRb} (h : cRb I 12 r) (h1 : fT (zup I 13 (rN r) (nI c)) J) (hK : K = zup (zup J 14 (rN r) (nI m)) 12 2 (nI (rN r + 1))) : cRb K 12 ((rC r, rR r, rN r + 1, rG r), un (rcr r) (rN r) c, un (rlm r) (rN r) m, rpc r, rpn r, rwd r, rwl r) := by
  subst hK
  obtain ⟨⟨a1, a2, a3, a4⟩, a5, a6⟩ := h
  have k : ∀ a, a ≠ 1 → a ≠ 12 → a ≠ 13 → a ≠ 14 → zup (zup J 14 (rN r) (nI m)) 12 2 (nI (rN r + 1)) a = I a := fun a p0 p q s => by rw [zup_row p, zup_row s, h1 a p0, zup_row q]
  have k12 : J 12 = I 12 := by rw [h1 12 (by decide), zup_row (by decide)]
  refine ⟨⟨?_, ?_, ?_, ?_⟩, fun n hn => ⟨?_, ?_⟩, ?_⟩
  · rw [zup_same, upd_ne (by decide), zup_row (by decide), k12]; exact a1
  · rw [zup_same, upd_ne (by decide), zup_row (by decide), k12]; exact a2
  · rw [zup_same, upd_at]; rfl
  · rw [zup_same, upd_ne (by decide), zup_row (by decide), k12]; exact a4
  · have hn' : n < rN r + 1 := hn
    show _ = nI (un (rcr r) (rN r) c n)
    rw [zup_row (by decide), zup_row (by decide), h1 _ (by decide), zup_same]
    by_cases z : n = rN r
    · rw [z, upd_at, un_at]
    · rw [upd_ne z, un_ne z]; exact (a5 n (by omega)).1
  · have hn' : n < rN r + 1 := hn
    show _ = nI (un (rlm r) (rN r) m n)
    rw [zup_row (by decide), show 12 + 2 = 14 from rfl, zup_same]
    by_cases z : n = rN r
    · rw [z, upd_at, un_at]
    · rw [upd_ne z, un_ne z, h1 _ (by decide), zup_row (by decide)]; exact (a5 n (by omega)).2
  · rw [k (12 + 3) (by decide) (by decide) (by decide) (by decide), k (12 + 4) (by decide) (by decide) (by decide) (by decide), k (12 + 5) (by decide) (by decide) (by decide) (by decide), k (12 + 6) (by decide) (by decide) (by decide) (by decide), k (12 + 7) (by decide) (by decide) (by decide) (by decide)]; exact a6
set_option maxHeartbeats 2000000 in
theorem k_readClause (hl : l.stackTraces = false) (hd : 6 ≤ d) (hs : zSt g) {bs : Nat → Nat} {L A F cl : Nat} {r : zRb} (ht : tX I bs L A F none) (hr : cRb I 12 r) (hok : rbOk r) (hcl : cl ≤ 600) : zEv l Xi mX0_readClause d [.ref 12, .ref 1, .int (nI cl)] I g (fun J => fB 12 I J ∧ ∃ A' F', pOk J bs L A' F' (pClause bs L cl r A) (fun r => cRb J 12 r ∧ rbOk r)) := by
  refine zC_of hl rfl rfl rfl (Nat.le_of_ble_eq_true rfl) (zav_r (zSt_ob hs 12 0 rfl).1 (zav_r (zSt_ob hs 1 10 rfl).1 (zav_i zav_0))) ?_
  have hN6 := hok.1.2.2.2.2.1
  have h249 : ∀ (J : zI) (A1 F1 : Nat) (r1 : PR zRb), fB 12 I J → pOk J bs L A1 F1 r1 (fun r => cRb J 12 r ∧ rbOk r) → pClause bs L cl r A = pbind r1 (fun r A => pbind (pSign bs L 59 A) fun _ A => .inr (r, A)) → zJ l Xi mX0_readClause d 0 0 249 [some (.ref 12), some (.ref 1), none, none, none, none, none, none] [] (J, g) (fun r' h' => r' = .inl none ∧ ∃ I', h' = (I', g) ∧ fB 12 I I' ∧ ∃ A' F', pOk I' bs L A' F' (pClause bs L cl r A) (fun r => cRb I' 12 r ∧ rbOk r)) := by
    intro J A1 F1 r1 hf hp he
    rw [he]
    refine zJ_aload_n dX0_readClause_249 rfl ?_
    refine zJ_bipush (v := nI 59) dX0_readClause_250 rfl ?_
    refine zP_ecallVv [_] _ lv_X0_119 (k_needP (d := d - 1) hl (by omega) hs hp (by omega)) (zSt_ob hs 1 10 rfl) rfl (by omega) (Nat.le_of_ble_eq_true rfl) rfl dX0_readClause_252 (fun J2 hJ2 => ?_)
    refine zJ_vret rfl dX0_readClause_255 ?_
    obtain ⟨hf2, A', F', hp2⟩ := hJ2
    exact ⟨rfl, J2, rfl, fB_trans hf (fB_fT hf2), A', F', pOk_imp hp2 (fun x hx => ⟨cRb_fT hx.1 (by decide) hf2, hx.2⟩)⟩
  refine zJ_aload_n dX0_readClause_0 rfl ?_
  refine zP_ecallVv [] _ lv_X0_80 (k_readWord (d := d - 1) hl (by omega) hs ht) (zSt_ob hs 1 10 rfl) rfl (by omega) (Nat.le_of_ble_eq_true rfl) rfl dX0_readClause_1 (fun J hJ => ?_)
  refine zJ_aload_n dX0_readClause_4 rfl ?_
  refine zJ_ldcS (num := 10 + 0) (tx := "size") (List.mem_of_getElem? (i := 0) rfl) dX0_readClause_5 ?_
  refine zP_callVi [_] _ lv_X0_85 (k_wordIs (i := 0) (d := d - 1) hl (by omega) hs hJ.2 (by decide)) (zSt_ob hs 1 10 rfl) rfl (by omega) (Nat.le_of_ble_eq_true rfl) rfl dX0_readClause_7 ?_
  refine zJ_istore_m 3 dX0_readClause_10 rfl (Nat.le_of_ble_eq_true rfl) (by decide) ?_
  refine zJ_aload_n dX0_readClause_11 rfl ?_
  refine zJ_ldcS (num := 10 + 1) (tx := "wall") (List.mem_of_getElem? (i := 1) rfl) dX0_readClause_12 ?_
  refine zP_callVi [_] _ lv_X0_85 (k_wordIs (i := 1) (d := d - 1) hl (by omega) hs hJ.2 (by decide)) (zSt_ob hs 1 10 rfl) rfl (by omega) (Nat.le_of_ble_eq_true rfl) rfl dX0_readClause_14 ?_
  refine zJ_istore dX0_readClause_17 (Nat.le_of_ble_eq_true rfl) (by decide) ?_
  refine zJ_aload_n dX0_readClause_19 rfl ?_
  refine zJ_ldcS (num := 10 + 2) (tx := "wide") (List.mem_of_getElem? (i := 2) rfl) dX0_readClause_20 ?_
  refine zP_callVi [_] _ lv_X0_85 (k_wordIs (i := 2) (d := d - 1) hl (by omega) hs hJ.2 (by decide)) (zSt_ob hs 1 10 rfl) rfl (by omega) (Nat.le_of_ble_eq_true rfl) rfl dX0_readClause_22 ?_
  refine zJ_istore dX0_readClause_25 (Nat.le_of_ble_eq_true rfl) (by decide) ?_
  refine zJ_aload_n dX0_readClause_27 rfl ?_
  refine zJ_ldcS (num := 10 + 3) (tx := "net") (List.mem_of_getElem? (i := 3) rfl) dX0_readClause_28 ?_
  refine zP_callVi [_] _ lv_X0_85 (k_wordIs (i := 3) (d := d - 1) hl (by omega) hs hJ.2 (by decide)) (zSt_ob hs 1 10 rfl) rfl (by omega) (Nat.le_of_ble_eq_true rfl) rfl dX0_readClause_30 ?_
  refine zJ_istore dX0_readClause_33 (Nat.le_of_ble_eq_true rfl) (by decide) ?_
  refine zJ_aload_n dX0_readClause_35 rfl ?_
  refine zJ_ldcS (num := 10 + 4) (tx := "pin") (List.mem_of_getElem? (i := 4) rfl) dX0_readClause_36 ?_
  refine zP_callVi [_] _ lv_X0_85 (k_wordIs (i := 4) (d := d - 1) hl (by omega) hs hJ.2 (by decide)) (zSt_ob hs 1 10 rfl) rfl (by omega) (Nat.le_of_ble_eq_true rfl) rfl dX0_readClause_38 ?_
  refine zJ_istore dX0_readClause_41 (Nat.le_of_ble_eq_true rfl) (by decide) ?_
  obtain ⟨hf, htJ⟩ := hJ
  have hrJ := cRb_fT hr (by decide) hf
  have hpJ := pOk_0 htJ
  have h108 : pClause bs L cl r A = .inl (3, sk bs L A) → zJ l Xi mX0_readClause d 0 0 108 [some (.ref 12), some (.ref 1), none, none, none, none, none, none] [] (J, g) (fun r' h' => r' = .inl none ∧ ∃ I', h' = (I', g) ∧ fB 12 I I' ∧ ∃ A' F', pOk I' bs L A' F' (pClause bs L cl r A) (fun r => cRb I' 12 r ∧ rbOk r)) := by
    intro he
    refine zJ_aload_n dX0_readClause_108 rfl ?_
    refine zJ_iconst (v := nI 3) dX0_readClause_109 rfl ?_
    refine zJ_aload_n dX0_readClause_110 rfl ?_
    refine zP_geti lf_X0_98 (zSt_ob hs 1 10 rfl) rfl dX0_readClause_111 ?_
    refine zP_ecallVv [_, _] _ lv_X0_101 (k_failP (β := zRb) (Q := fun _ => False) (w := sk bs L A) (d := d - 1) hl (by omega) hs hpJ (by omega) (by omega) (tX_fr htJ)) (zSt_ob hs 1 10 rfl) rfl (by omega) (Nat.le_of_ble_eq_true rfl) rfl dX0_readClause_114 (fun J2 hJ2 => ?_)
    refine zJ_goto 249 dX0_readClause_117 (by decide) ?_
    exact h249 J2 _ _ (.inl (3, sk bs L A)) (fB_fT (fT_trans hf hJ2.1)) (pOk_imp hJ2.2 (fun _ z => z.elim)) he
  rcases kd_cases (bs := bs) (a := sk bs L A) (w := woE bs L A) with ⟨hk, b0, b1, b2, b3, b4, b5⟩ | ⟨hk, b0, b1, b2, b3, b4, b5⟩ | ⟨hk, b0, b1, b2, b3, b4, b5⟩ | ⟨hk, b0, b1, b2, b3, b4, b5⟩ | ⟨hk, b0, b1, b2, b3, b4, b5⟩ | ⟨hk, b0, b1, b2, b3, b4, b5⟩ | ⟨hk, b0, b1, b2, b3, b4, b5⟩
  · rw [b0, b1, b2, b3, b4]
    by_cases hmany : 60 ≤ cl
    · have hcls : pClause bs L cl r A = .inl (3, sk bs L A) := by unfold pClause; rw [hk]; simp only []; rw [if_neg (by decide), if_pos (by exact Or.inl hmany)]
      refine zJ_iload_n dX0_readClause_43 rfl ?_
      refine zJ_if_ne 88 dX0_readClause_44 (by decide) (fun _ => ?_) (fun c44 => absurd c44 (by decide))
      refine zJ_iload_n dX0_readClause_88 rfl ?_
      refine zJ_bipush (v := nI 60) dX0_readClause_89 rfl ?_
      refine zJ_icmp_ge 108 dX0_readClause_91 (by decide) (fun _ => ?_) (fun c91 => absurd (nI_le hmany (by omega)) c91)
      exact zJ_back (zle_r (zle_r (zle_n (zle_n (zle_n (zle_n (zle_n (zle_n zle_0)))))))) rfl (h108 hcls)
    · have hcls : pClause bs L cl r A = pbind (pBody bs L 0 r (woE bs L A)) fun r A => pbind (pSign bs L 59 A) fun _ A => .inr (r, A) := by unfold pClause; rw [hk]; simp only []; rw [if_neg (by decide), if_neg (by exact fun z => z.elim hmany (fun q => absurd q.1 (by decide)))]
      refine zJ_iload_n dX0_readClause_43 rfl ?_
      refine zJ_if_ne 88 dX0_readClause_44 (by decide) (fun _ => ?_) (fun c44 => absurd c44 (by decide))
      refine zJ_iload_n dX0_readClause_88 rfl ?_
      refine zJ_bipush (v := nI 60) dX0_readClause_89 rfl ?_
      refine zJ_icmp_ge 108 dX0_readClause_91 (by decide) (fun c91 => absurd c91 (nI_ge (by omega) (by omega))) (fun _ => ?_)
      refine zJ_iload dX0_readClause_94 rfl ?_
      refine zJ_if_eq 120 dX0_readClause_96 (by decide) (fun _ => ?_) (fun c96 => absurd rfl c96)
      refine zJ_iload_n dX0_readClause_120 rfl ?_
      refine zJ_if_eq 149 dX0_readClause_121 (by decide) (fun c121 => absurd c121 (by decide)) (fun _ => ?_)
      refine zJ_aload_n dX0_readClause_124 rfl ?_
      refine zJ_aload_n dX0_readClause_125 rfl ?_
      skip
      refine zJ_iconst (v := nI 2) dX0_readClause_126 rfl ?_
      refine zJ_bipush (v := nI 8) dX0_readClause_127 rfl ?_
      refine zP_ecallVi [_, _] _ lv_X0_105 (k_numP (lo := 2) (hi := 9) (d := d - 1) hl (by omega) hs hpJ (by omega) (by omega) rfl (nI_pred 8).symm) (zSt_ob hs 1 10 rfl) rfl (by omega) (Nat.le_of_ble_eq_true rfl) rfl dX0_readClause_129 (fun x1 J1 hx1 => ?_)
      obtain ⟨c1, rfl, hc1, hf1, hp1⟩ := hx1
      refine zP_puti lf_X0_9 (zSt_ob hs 12 0 rfl) rfl dX0_readClause_132 ?_
      refine zJ_aload_n dX0_readClause_135 rfl ?_
      refine zJ_aload_n dX0_readClause_136 rfl ?_
      refine zJ_iconst (v := nI 2) dX0_readClause_137 rfl ?_
      refine zJ_bipush (v := nI 8) dX0_readClause_138 rfl ?_
      refine zP_ecallVi [_, _] _ lv_X0_105 (k_numP (lo := 2) (hi := 9) (d := d - 1) hl (by omega) hs (pOk_zup hp1 (by decide)) (by omega) (by omega) rfl (nI_pred 8).symm) (zSt_ob hs 1 10 rfl) rfl (by omega) (Nat.le_of_ble_eq_true rfl) rfl dX0_readClause_140 (fun x2 J2 hx2 => ?_)
      obtain ⟨c2, rfl, hc2, hf2, hp2⟩ := hx2
      refine zP_puti lf_X0_15 (zSt_ob hs 12 0 rfl) rfl dX0_readClause_143 ?_
      refine zJ_goto 249 dX0_readClause_146 (by decide) ?_
      refine zJ_back (zle_r (zle_r (zle_n (zle_n (zle_n (zle_n (zle_n (zle_n zle_0)))))))) rfl (h249 _ (nuE bs L (nuE bs L (woE bs L A))) (sk bs L (nuE bs L (woE bs L A))) (pBody bs L 0 r (woE bs L A)) (fB_zup (fB_trans (fB_zup (fB_fT (fT_trans hf hf1)) (by decide)) (fB_fT hf2)) (by decide)) ?_ hcls)
      refine pOk_map (fun q => ((q.1.2, q.2, rN r, rG r), r.2)) (pOk_zup hp2 (by decide)) (by simp only [pBody, pbind_assoc, pbind_inr]; rfl) (fun q hq => ?_)
      obtain ⟨⟨-, a1, a2, a3⟩, a4, a5, a6⟩ := hq
      rw [a1, a4]
      have hT : fT (zup J 12 0 (nI c1)) J2 := fun a ha => by
        rw [hf2 a ha]
        by_cases z : a = 12
        · rw [z, zup_same, zup_same, hf1 12 (by decide)]
        · rw [zup_row z, zup_row z, hf1 a ha]
      have e9 : zup J2 12 1 (nI c2) 12 = zup (zup J 12 0 (nI c1)) 12 1 (nI c2) 12 := by rw [zup_same, zup_same, hT 12 (by decide)]
      refine ⟨?_, ⟨by show 2 ≤ c1; omega, by show c1 ≤ 8; omega, by show 2 ≤ c2; omega, by show c2 ≤ 8; omega, hok.1.2.2.2.2⟩, hok.2⟩
      refine cRb_fT (cRb_sz (x := c1) (y := c2) hrJ) (by decide) (fun a ha => ?_)
      by_cases z : a = 12
      · rw [z]; exact e9
      · rw [zup_row z, zup_row z, hT a ha]
  · rw [b0, b1, b2, b3, b4]
    by_cases hmany : 60 ≤ cl
    · have hcls : pClause bs L cl r A = .inl (3, sk bs L A) := by unfold pClause; rw [hk]; simp only []; rw [if_neg (by decide), if_pos (by exact Or.inl hmany)]
      refine zJ_iload_n dX0_readClause_43 rfl ?_
      refine zJ_if_ne 88 dX0_readClause_44 (by decide) (fun c44 => absurd rfl c44) (fun _ => ?_)
      refine zJ_iload dX0_readClause_47 rfl ?_
      refine zJ_if_ne 88 dX0_readClause_49 (by decide) (fun _ => ?_) (fun c49 => absurd c49 (by decide))
      refine zJ_iload_n dX0_readClause_88 rfl ?_
      refine zJ_bipush (v := nI 60) dX0_readClause_89 rfl ?_
      refine zJ_icmp_ge 108 dX0_readClause_91 (by decide) (fun _ => ?_) (fun c91 => absurd (nI_le hmany (by omega)) c91)
      exact zJ_back (zle_r (zle_r (zle_n (zle_n (zle_n (zle_n (zle_n (zle_n zle_0)))))))) rfl (h108 hcls)
    · have hcls : pClause bs L cl r A = pbind (pBody bs L 1 r (woE bs L A)) fun r A => pbind (pSign bs L 59 A) fun _ A => .inr (r, A) := by unfold pClause; rw [hk]; simp only []; rw [if_neg (by decide), if_neg (by exact fun z => z.elim hmany (fun q => absurd q.1 (by decide)))]
      refine zJ_iload_n dX0_readClause_43 rfl ?_
      refine zJ_if_ne 88 dX0_readClause_44 (by decide) (fun c44 => absurd rfl c44) (fun _ => ?_)
      refine zJ_iload dX0_readClause_47 rfl ?_
      refine zJ_if_ne 88 dX0_readClause_49 (by decide) (fun _ => ?_) (fun c49 => absurd c49 (by decide))
      refine zJ_iload_n dX0_readClause_88 rfl ?_
      refine zJ_bipush (v := nI 60) dX0_readClause_89 rfl ?_
      refine zJ_icmp_ge 108 dX0_readClause_91 (by decide) (fun c91 => absurd c91 (nI_ge (by omega) (by omega))) (fun _ => ?_)
      refine zJ_iload dX0_readClause_94 rfl ?_
      refine zJ_if_eq 120 dX0_readClause_96 (by decide) (fun _ => ?_) (fun c96 => absurd rfl c96)
      refine zJ_iload_n dX0_readClause_120 rfl ?_
      refine zJ_if_eq 149 dX0_readClause_121 (by decide) (fun _ => ?_) (fun c121 => absurd rfl c121)
      refine zJ_iload dX0_readClause_149 rfl ?_
      refine zJ_if_eq 162 dX0_readClause_151 (by decide) (fun c151 => absurd c151 (by decide)) (fun _ => ?_)
      refine zJ_aload_n dX0_readClause_154 rfl ?_
      refine zJ_aload_n dX0_readClause_155 rfl ?_
      refine zP_ecallVv [_] _ lv_X0_109 (k_readWall (d := d - 1) hl (by omega) hs htJ hrJ hok) (zSt_ob hs 12 0 rfl) rfl (by omega) (Nat.le_of_ble_eq_true rfl) rfl dX0_readClause_156 (fun J2 hJ2 => ?_)
      refine zJ_goto 249 dX0_readClause_159 (by decide) ?_
      obtain ⟨hf2, A', F', hp2⟩ := hJ2
      exact zJ_back (zle_r (zle_r (zle_n (zle_n (zle_n (zle_n (zle_n (zle_n zle_0)))))))) rfl (h249 _ _ _ (pBody bs L 1 r (woE bs L A)) (fB_trans (fB_fT hf) hf2) hp2 hcls)
  · rw [b0, b1, b2, b3, b4]
    by_cases hmany : 60 ≤ cl
    · have hcls : pClause bs L cl r A = .inl (3, sk bs L A) := by unfold pClause; rw [hk]; simp only []; rw [if_neg (by decide), if_pos (by exact Or.inl hmany)]
      refine zJ_iload_n dX0_readClause_43 rfl ?_
      refine zJ_if_ne 88 dX0_readClause_44 (by decide) (fun c44 => absurd rfl c44) (fun _ => ?_)
      refine zJ_iload dX0_readClause_47 rfl ?_
      refine zJ_if_ne 88 dX0_readClause_49 (by decide) (fun c49 => absurd rfl c49) (fun _ => ?_)
      refine zJ_iload dX0_readClause_52 rfl ?_
      refine zJ_if_ne 88 dX0_readClause_54 (by decide) (fun _ => ?_) (fun c54 => absurd c54 (by decide))
      refine zJ_iload_n dX0_readClause_88 rfl ?_
      refine zJ_bipush (v := nI 60) dX0_readClause_89 rfl ?_
      refine zJ_icmp_ge 108 dX0_readClause_91 (by decide) (fun _ => ?_) (fun c91 => absurd (nI_le hmany (by omega)) c91)
      exact zJ_back (zle_r (zle_r (zle_n (zle_n (zle_n (zle_n (zle_n (zle_n zle_0)))))))) rfl (h108 hcls)
    · have hcls : pClause bs L cl r A = pbind (pBody bs L 2 r (woE bs L A)) fun r A => pbind (pSign bs L 59 A) fun _ A => .inr (r, A) := by unfold pClause; rw [hk]; simp only []; rw [if_neg (by decide), if_neg (by exact fun z => z.elim hmany (fun q => absurd q.1 (by decide)))]
      refine zJ_iload_n dX0_readClause_43 rfl ?_
      refine zJ_if_ne 88 dX0_readClause_44 (by decide) (fun c44 => absurd rfl c44) (fun _ => ?_)
      refine zJ_iload dX0_readClause_47 rfl ?_
      refine zJ_if_ne 88 dX0_readClause_49 (by decide) (fun c49 => absurd rfl c49) (fun _ => ?_)
      refine zJ_iload dX0_readClause_52 rfl ?_
      refine zJ_if_ne 88 dX0_readClause_54 (by decide) (fun _ => ?_) (fun c54 => absurd c54 (by decide))
      refine zJ_iload_n dX0_readClause_88 rfl ?_
      refine zJ_bipush (v := nI 60) dX0_readClause_89 rfl ?_
      refine zJ_icmp_ge 108 dX0_readClause_91 (by decide) (fun c91 => absurd c91 (nI_ge (by omega) (by omega))) (fun _ => ?_)
      refine zJ_iload dX0_readClause_94 rfl ?_
      refine zJ_if_eq 120 dX0_readClause_96 (by decide) (fun _ => ?_) (fun c96 => absurd rfl c96)
      refine zJ_iload_n dX0_readClause_120 rfl ?_
      refine zJ_if_eq 149 dX0_readClause_121 (by decide) (fun _ => ?_) (fun c121 => absurd rfl c121)
      refine zJ_iload dX0_readClause_149 rfl ?_
      refine zJ_if_eq 162 dX0_readClause_151 (by decide) (fun _ => ?_) (fun c151 => absurd rfl c151)
      refine zJ_iload dX0_readClause_162 rfl ?_
      refine zJ_if_eq 175 dX0_readClause_164 (by decide) (fun c164 => absurd c164 (by decide)) (fun _ => ?_)
      refine zJ_aload_n dX0_readClause_167 rfl ?_
      refine zJ_aload_n dX0_readClause_168 rfl ?_
      refine zP_ecallVv [_] _ lv_X0_113 (k_readWide (d := d - 1) hl (by omega) hs htJ hrJ hok) (zSt_ob hs 12 0 rfl) rfl (by omega) (Nat.le_of_ble_eq_true rfl) rfl dX0_readClause_169 (fun J2 hJ2 => ?_)
      refine zJ_goto 249 dX0_readClause_172 (by decide) ?_
      obtain ⟨hf2, A', F', hp2⟩ := hJ2
      exact zJ_back (zle_r (zle_r (zle_n (zle_n (zle_n (zle_n (zle_n (zle_n zle_0)))))))) rfl (h249 _ _ _ (pBody bs L 2 r (woE bs L A)) (fB_trans (fB_fT hf) hf2) hp2 hcls)
  · rw [b0, b1, b2, b3, b4]
    by_cases hmany : 60 ≤ cl ∨ 6 ≤ rN r
    · have hcls : pClause bs L cl r A = .inl (3, sk bs L A) := by unfold pClause; rw [hk]; simp only []; rw [if_neg (by decide), if_pos (by first | exact hmany | exact hmany.imp id (fun q => ⟨trivial, q⟩) | exact hmany.imp id (fun q => ⟨rfl, q⟩))]
      refine zJ_iload_n dX0_readClause_43 rfl ?_
      refine zJ_if_ne 88 dX0_readClause_44 (by decide) (fun c44 => absurd rfl c44) (fun _ => ?_)
      refine zJ_iload dX0_readClause_47 rfl ?_
      refine zJ_if_ne 88 dX0_readClause_49 (by decide) (fun c49 => absurd rfl c49) (fun _ => ?_)
      refine zJ_iload dX0_readClause_52 rfl ?_
      refine zJ_if_ne 88 dX0_readClause_54 (by decide) (fun c54 => absurd rfl c54) (fun _ => ?_)
      refine zJ_iload dX0_readClause_57 rfl ?_
      refine zJ_if_ne 88 dX0_readClause_59 (by decide) (fun _ => ?_) (fun c59 => absurd c59 (by decide))
      refine zJ_iload_n dX0_readClause_88 rfl ?_
      refine zJ_bipush (v := nI 60) dX0_readClause_89 rfl ?_
      refine zJ_icmp_ge 108 dX0_readClause_91 (by decide) (fun c91 => ?_) (fun c91 => ?_)
      · skip
        exact zJ_back (zle_r (zle_r (zle_n (zle_n (zle_n (zle_n (zle_n (zle_n zle_0)))))))) rfl (h108 hcls)
      · skip
        refine zJ_iload dX0_readClause_94 rfl ?_
        refine zJ_if_eq 120 dX0_readClause_96 (by decide) (fun c96 => absurd c96 (by decide)) (fun _ => ?_)
        refine zJ_aload_n dX0_readClause_99 rfl ?_
        refine zP_geti lf_X0_52 (zSt_ob hs 12 0 rfl) rfl dX0_readClause_100 ?_
        rw [hrJ.1.2.2.1]
        refine zJ_bipush (v := nI 6) dX0_readClause_103 rfl ?_
        refine zJ_icmp_lt 120 dX0_readClause_105 (by decide) (fun c105 => ?_) (fun c105 => ?_)
        · skip
          rcases hmany with z | z
          · exact absurd (nI_le z (by omega)) c91
          · exact absurd c105 (nI_nlt z (by omega))
        · skip
          exact zJ_back (zle_r (zle_r (zle_n (zle_n (zle_n (zle_n (zle_n (zle_n zle_0)))))))) rfl (h108 hcls)
    · have hcls : pClause bs L cl r A = pbind (pBody bs L 3 r (woE bs L A)) fun r A => pbind (pSign bs L 59 A) fun _ A => .inr (r, A) := by unfold pClause; rw [hk]; simp only []; rw [if_neg (by decide), if_neg (by exact fun z => hmany (z.imp id (fun q => q.2)))]
      refine zJ_iload_n dX0_readClause_43 rfl ?_
      refine zJ_if_ne 88 dX0_readClause_44 (by decide) (fun c44 => absurd rfl c44) (fun _ => ?_)
      refine zJ_iload dX0_readClause_47 rfl ?_
      refine zJ_if_ne 88 dX0_readClause_49 (by decide) (fun c49 => absurd rfl c49) (fun _ => ?_)
      refine zJ_iload dX0_readClause_52 rfl ?_
      refine zJ_if_ne 88 dX0_readClause_54 (by decide) (fun c54 => absurd rfl c54) (fun _ => ?_)
      refine zJ_iload dX0_readClause_57 rfl ?_
      refine zJ_if_ne 88 dX0_readClause_59 (by decide) (fun _ => ?_) (fun c59 => absurd c59 (by decide))
      refine zJ_iload_n dX0_readClause_88 rfl ?_
      refine zJ_bipush (v := nI 60) dX0_readClause_89 rfl ?_
      refine zJ_icmp_ge 108 dX0_readClause_91 (by decide) (fun c91 => absurd c91 (nI_ge (by omega) (by omega))) (fun _ => ?_)
      refine zJ_iload dX0_readClause_94 rfl ?_
      refine zJ_if_eq 120 dX0_readClause_96 (by decide) (fun c96 => absurd c96 (by decide)) (fun _ => ?_)
      refine zJ_aload_n dX0_readClause_99 rfl ?_
      refine zP_geti lf_X0_52 (zSt_ob hs 12 0 rfl) rfl dX0_readClause_100 ?_
      rw [hrJ.1.2.2.1]
      refine zJ_bipush (v := nI 6) dX0_readClause_103 rfl ?_
      refine zJ_icmp_lt 120 dX0_readClause_105 (by decide) (fun _ => ?_) (fun c105 => absurd (nI_lt (by omega) (by omega)) c105)
      refine zJ_iload_n dX0_readClause_120 rfl ?_
      refine zJ_if_eq 149 dX0_readClause_121 (by decide) (fun _ => ?_) (fun c121 => absurd rfl c121)
      refine zJ_iload dX0_readClause_149 rfl ?_
      refine zJ_if_eq 162 dX0_readClause_151 (by decide) (fun _ => ?_) (fun c151 => absurd rfl c151)
      refine zJ_iload dX0_readClause_162 rfl ?_
      refine zJ_if_eq 175 dX0_readClause_164 (by decide) (fun _ => ?_) (fun c164 => absurd rfl c164)
      refine zJ_iload dX0_readClause_175 rfl ?_
      refine zJ_if_eq 225 dX0_readClause_177 (by decide) (fun c177 => absurd c177 (by decide)) (fun _ => ?_)
      refine zJ_aload_n dX0_readClause_180 rfl ?_
      refine zP_getr lf_X0_21 (zSt_ob hs 12 0 rfl) rfl (zSt_rf hs 12 4 13 rfl) dX0_readClause_181 ?_
      refine zJ_aload_n dX0_readClause_184 rfl ?_
      refine zP_geti lf_X0_52 (zSt_ob hs 12 0 rfl) rfl dX0_readClause_185 ?_
      rw [hrJ.1.2.2.1]
      refine zJ_aload_n dX0_readClause_188 rfl ?_
      refine zJ_iconst (v := nI 0) dX0_readClause_189 rfl ?_
      refine zJ_bipush (v := nI 9) dX0_readClause_190 rfl ?_
      refine zP_ecallVi [_, _] _ lv_X0_105 (k_numP (lo := 0) (hi := 10) (d := d - 1) hl (by omega) hs hpJ (by omega) (by omega) rfl (nI_pred 9).symm) (zSt_ob hs 1 10 rfl) rfl (by omega) (Nat.le_of_ble_eq_true rfl) rfl dX0_readClause_192 (fun x1 J1 hx1 => ?_)
      obtain ⟨c1, rfl, hc1, hf1, hp1⟩ := hx1
      refine zP_iast (zSt_ar hs 13 6 rfl) (by first | assumption | with_reducible exact vp_in_nI (by omega) (by omega) | (simp (disch := omega) only [nI_add, pk_mul, pk_sub, pk_div, pk_rem, nI_clamp]; with_reducible exact vp_in_nI (by omega) (by omega))) dX0_readClause_195 ?_
      refine zJ_aload_n dX0_readClause_196 rfl ?_
      refine zP_getr lf_X0_25 (zSt_ob hs 12 0 rfl) rfl (zSt_rf hs 12 5 14 rfl) dX0_readClause_197 ?_
      refine zJ_aload_n dX0_readClause_200 rfl ?_
      refine zP_geti lf_X0_52 (zSt_ob hs 12 0 rfl) rfl dX0_readClause_201 ?_
      rw [nI_clamp (by omega), zup_row (by decide), hf1 12 (by decide), hrJ.1.2.2.1]
      refine zJ_aload_n dX0_readClause_204 rfl ?_
      refine zJ_iconst (v := nI 0) dX0_readClause_205 rfl ?_
      refine zJ_bipush (v := nI 60) dX0_readClause_206 rfl ?_
      refine zP_ecallVi [_, _] _ lv_X0_105 (k_numP (lo := 0) (hi := 61) (d := d - 1) hl (by omega) hs (pOk_zup hp1 (by decide)) (by omega) (by omega) rfl (nI_pred 60).symm) (zSt_ob hs 1 10 rfl) rfl (by omega) (Nat.le_of_ble_eq_true rfl) rfl dX0_readClause_208 (fun x2 J2 hx2 => ?_)
      obtain ⟨c2, rfl, hc2, hf2, hp2⟩ := hx2
      refine zP_iast (zSt_ar hs 14 6 rfl) (by first | assumption | with_reducible exact vp_in_nI (by omega) (by omega) | (simp (disch := omega) only [nI_add, pk_mul, pk_sub, pk_div, pk_rem, nI_clamp]; with_reducible exact vp_in_nI (by omega) (by omega))) dX0_readClause_211 ?_
      refine zJ_aload_n dX0_readClause_212 rfl ?_
      refine zJ_dup dX0_readClause_213 rfl ?_
      refine zP_geti lf_X0_52 (zSt_ob hs 12 0 rfl) rfl dX0_readClause_214 ?_
      rw [nI_clamp (by omega), zup_row (by decide), hf2 12 (by decide), zup_row (by decide), hf1 12 (by decide), hrJ.1.2.2.1]
      refine zJ_iconst (v := nI 1) dX0_readClause_217 rfl ?_
      refine zJ_iadd dX0_readClause_218 ?_
      rw [nI_add]
      refine zP_puti lf_X0_52 (zSt_ob hs 12 0 rfl) rfl dX0_readClause_219 ?_
      refine zJ_goto 249 dX0_readClause_222 (by decide) ?_
      refine zJ_back (zle_r (zle_r (zle_n (zle_n (zle_n (zle_n (zle_n (zle_n zle_0)))))))) rfl (h249 _ (nuE bs L (nuE bs L (woE bs L A))) (sk bs L (nuE bs L (woE bs L A))) (pBody bs L 3 r (woE bs L A)) (fB_zup (fB_zup (fB_trans (fB_zup (fB_fT (fT_trans hf hf1)) (by decide)) (fB_fT hf2)) (by decide)) (by decide)) ?_ hcls)
      refine pOk_map (fun q => ((rC r, rR r, rN r + 1, rG r), un (rcr r) (rN r) q.1.2, un (rlm r) (rN r) q.2, rpc r, rpn r, rwd r, rwl r)) (pOk_zup (pOk_zup hp2 (by decide)) (by decide)) (by simp only [pBody, pbind_assoc, pbind_inr]; rfl) (fun q hq => ?_)
      obtain ⟨⟨-, a1, a2, a3⟩, a4, a5, a6⟩ := hq
      rw [a1, a4]
      refine ⟨cRb_nt (I := J) (J := J2) hrJ (fun a ha => ?_) rfl, ⟨hok.1.1, hok.1.2.1, hok.1.2.2.1, hok.1.2.2.2.1, by show rN r + 1 ≤ 6; omega, hok.1.2.2.2.2.2⟩, fun n hn => ⟨(hok.2.1 n hn).1, fun z => (hok.2.1 n hn).2 (by have z' : rN r + 1 ≤ n := z; omega)⟩, hok.2.2.1, hok.2.2.2.1, fun n hn => ?_⟩
      · rw [hf2 a ha]
        by_cases z : a = 13
        · rw [z, zup_same, zup_same, hf1 13 (by decide)]
        · rw [zup_row z, zup_row z, hf1 a ha]
      · show un (rcr r) (rN r) c1 n ≤ 9 ∧ un (rlm r) (rN r) c2 n ≤ 60
        have hn' : n < rN r + 1 := hn
        by_cases z : n = rN r
        · rw [z, un_at, un_at]; omega
        · rw [un_ne z, un_ne z]; exact hok.2.2.2.2 n (by omega)
  · rw [b0, b1, b2, b3, b4]
    by_cases hmany : 60 ≤ cl
    · have hcls : pClause bs L cl r A = .inl (3, sk bs L A) := by unfold pClause; rw [hk]; simp only []; rw [if_neg (by decide), if_pos (by exact Or.inl hmany)]
      refine zJ_iload_n dX0_readClause_43 rfl ?_
      refine zJ_if_ne 88 dX0_readClause_44 (by decide) (fun c44 => absurd rfl c44) (fun _ => ?_)
      refine zJ_iload dX0_readClause_47 rfl ?_
      refine zJ_if_ne 88 dX0_readClause_49 (by decide) (fun c49 => absurd rfl c49) (fun _ => ?_)
      refine zJ_iload dX0_readClause_52 rfl ?_
      refine zJ_if_ne 88 dX0_readClause_54 (by decide) (fun c54 => absurd rfl c54) (fun _ => ?_)
      refine zJ_iload dX0_readClause_57 rfl ?_
      refine zJ_if_ne 88 dX0_readClause_59 (by decide) (fun c59 => absurd rfl c59) (fun _ => ?_)
      refine zJ_iload dX0_readClause_62 rfl ?_
      refine zJ_if_ne 88 dX0_readClause_64 (by decide) (fun _ => ?_) (fun c64 => absurd c64 (by decide))
      refine zJ_iload_n dX0_readClause_88 rfl ?_
      refine zJ_bipush (v := nI 60) dX0_readClause_89 rfl ?_
      refine zJ_icmp_ge 108 dX0_readClause_91 (by decide) (fun _ => ?_) (fun c91 => absurd (nI_le hmany (by omega)) c91)
      exact zJ_back (zle_r (zle_r (zle_n (zle_n (zle_n (zle_n (zle_n (zle_n zle_0)))))))) rfl (h108 hcls)
    · have hcls : pClause bs L cl r A = pbind (pBody bs L 4 r (woE bs L A)) fun r A => pbind (pSign bs L 59 A) fun _ A => .inr (r, A) := by unfold pClause; rw [hk]; simp only []; rw [if_neg (by decide), if_neg (by exact fun z => z.elim hmany (fun q => absurd q.1 (by decide)))]
      refine zJ_iload_n dX0_readClause_43 rfl ?_
      refine zJ_if_ne 88 dX0_readClause_44 (by decide) (fun c44 => absurd rfl c44) (fun _ => ?_)
      refine zJ_iload dX0_readClause_47 rfl ?_
      refine zJ_if_ne 88 dX0_readClause_49 (by decide) (fun c49 => absurd rfl c49) (fun _ => ?_)
      refine zJ_iload dX0_readClause_52 rfl ?_
      refine zJ_if_ne 88 dX0_readClause_54 (by decide) (fun c54 => absurd rfl c54) (fun _ => ?_)
      refine zJ_iload dX0_readClause_57 rfl ?_
      refine zJ_if_ne 88 dX0_readClause_59 (by decide) (fun c59 => absurd rfl c59) (fun _ => ?_)
      refine zJ_iload dX0_readClause_62 rfl ?_
      refine zJ_if_ne 88 dX0_readClause_64 (by decide) (fun _ => ?_) (fun c64 => absurd c64 (by decide))
      refine zJ_iload_n dX0_readClause_88 rfl ?_
      refine zJ_bipush (v := nI 60) dX0_readClause_89 rfl ?_
      refine zJ_icmp_ge 108 dX0_readClause_91 (by decide) (fun c91 => absurd c91 (nI_ge (by omega) (by omega))) (fun _ => ?_)
      refine zJ_iload dX0_readClause_94 rfl ?_
      refine zJ_if_eq 120 dX0_readClause_96 (by decide) (fun _ => ?_) (fun c96 => absurd rfl c96)
      refine zJ_iload_n dX0_readClause_120 rfl ?_
      refine zJ_if_eq 149 dX0_readClause_121 (by decide) (fun _ => ?_) (fun c121 => absurd rfl c121)
      refine zJ_iload dX0_readClause_149 rfl ?_
      refine zJ_if_eq 162 dX0_readClause_151 (by decide) (fun _ => ?_) (fun c151 => absurd rfl c151)
      refine zJ_iload dX0_readClause_162 rfl ?_
      refine zJ_if_eq 175 dX0_readClause_164 (by decide) (fun _ => ?_) (fun c164 => absurd rfl c164)
      refine zJ_iload dX0_readClause_175 rfl ?_
      refine zJ_if_eq 225 dX0_readClause_177 (by decide) (fun _ => ?_) (fun c177 => absurd rfl c177)
      refine zJ_iload dX0_readClause_225 rfl ?_
      refine zJ_if_eq 238 dX0_readClause_227 (by decide) (fun c227 => absurd c227 (by decide)) (fun _ => ?_)
      refine zJ_aload_n dX0_readClause_230 rfl ?_
      refine zJ_aload_n dX0_readClause_231 rfl ?_
      refine zP_ecallVv [_] _ lv_X0_116 (k_readPin (d := d - 1) hl (by omega) hs htJ hrJ hok) (zSt_ob hs 12 0 rfl) rfl (by omega) (Nat.le_of_ble_eq_true rfl) rfl dX0_readClause_232 (fun J2 hJ2 => ?_)
      refine zJ_goto 249 dX0_readClause_235 (by decide) ?_
      obtain ⟨hf2, A', F', hp2⟩ := hJ2
      exact zJ_back (zle_r (zle_r (zle_n (zle_n (zle_n (zle_n (zle_n (zle_n zle_0)))))))) rfl (h249 _ _ _ (pBody bs L 4 r (woE bs L A)) (fB_trans (fB_fT hf) hf2) hp2 hcls)
  · rw [b0, b1, b2, b3, b4]
    by_cases hmany : 60 ≤ cl
    · have hcls : pClause bs L cl r A = .inl (3, sk bs L A) := by unfold pClause; rw [hk]; simp only []; rw [if_neg (by decide), if_pos (by exact Or.inl hmany)]
      refine zJ_iload_n dX0_readClause_43 rfl ?_
      refine zJ_if_ne 88 dX0_readClause_44 (by decide) (fun c44 => absurd rfl c44) (fun _ => ?_)
      refine zJ_iload dX0_readClause_47 rfl ?_
      refine zJ_if_ne 88 dX0_readClause_49 (by decide) (fun c49 => absurd rfl c49) (fun _ => ?_)
      refine zJ_iload dX0_readClause_52 rfl ?_
      refine zJ_if_ne 88 dX0_readClause_54 (by decide) (fun c54 => absurd rfl c54) (fun _ => ?_)
      refine zJ_iload dX0_readClause_57 rfl ?_
      refine zJ_if_ne 88 dX0_readClause_59 (by decide) (fun c59 => absurd rfl c59) (fun _ => ?_)
      refine zJ_iload dX0_readClause_62 rfl ?_
      refine zJ_if_ne 88 dX0_readClause_64 (by decide) (fun c64 => absurd rfl c64) (fun _ => ?_)
      refine zJ_aload_n dX0_readClause_67 rfl ?_
      refine zJ_ldcS (num := 10 + 5) (tx := "gain") (List.mem_of_getElem? (i := 5) rfl) dX0_readClause_68 ?_
      refine zP_callVi [_] _ lv_X0_85 (k_wordIs (i := 5) (d := d - 1) hl (by omega) hs htJ (by decide)) (zSt_ob hs 1 10 rfl) rfl (by omega) (Nat.le_of_ble_eq_true rfl) rfl dX0_readClause_70 ?_
      rw [b5]
      refine zJ_if_ne 88 dX0_readClause_73 (by decide) (fun _ => ?_) (fun c73 => absurd c73 (by decide))
      refine zJ_iload_n dX0_readClause_88 rfl ?_
      refine zJ_bipush (v := nI 60) dX0_readClause_89 rfl ?_
      refine zJ_icmp_ge 108 dX0_readClause_91 (by decide) (fun _ => ?_) (fun c91 => absurd (nI_le hmany (by omega)) c91)
      exact zJ_back (zle_r (zle_r (zle_n (zle_n (zle_n (zle_n (zle_n (zle_n zle_0)))))))) rfl (h108 hcls)
    · have hcls : pClause bs L cl r A = pbind (pBody bs L 5 r (woE bs L A)) fun r A => pbind (pSign bs L 59 A) fun _ A => .inr (r, A) := by unfold pClause; rw [hk]; simp only []; rw [if_neg (by decide), if_neg (by exact fun z => z.elim hmany (fun q => absurd q.1 (by decide)))]
      refine zJ_iload_n dX0_readClause_43 rfl ?_
      refine zJ_if_ne 88 dX0_readClause_44 (by decide) (fun c44 => absurd rfl c44) (fun _ => ?_)
      refine zJ_iload dX0_readClause_47 rfl ?_
      refine zJ_if_ne 88 dX0_readClause_49 (by decide) (fun c49 => absurd rfl c49) (fun _ => ?_)
      refine zJ_iload dX0_readClause_52 rfl ?_
      refine zJ_if_ne 88 dX0_readClause_54 (by decide) (fun c54 => absurd rfl c54) (fun _ => ?_)
      refine zJ_iload dX0_readClause_57 rfl ?_
      refine zJ_if_ne 88 dX0_readClause_59 (by decide) (fun c59 => absurd rfl c59) (fun _ => ?_)
      refine zJ_iload dX0_readClause_62 rfl ?_
      refine zJ_if_ne 88 dX0_readClause_64 (by decide) (fun c64 => absurd rfl c64) (fun _ => ?_)
      refine zJ_aload_n dX0_readClause_67 rfl ?_
      refine zJ_ldcS (num := 10 + 5) (tx := "gain") (List.mem_of_getElem? (i := 5) rfl) dX0_readClause_68 ?_
      refine zP_callVi [_] _ lv_X0_85 (k_wordIs (i := 5) (d := d - 1) hl (by omega) hs htJ (by decide)) (zSt_ob hs 1 10 rfl) rfl (by omega) (Nat.le_of_ble_eq_true rfl) rfl dX0_readClause_70 ?_
      rw [b5]
      refine zJ_if_ne 88 dX0_readClause_73 (by decide) (fun _ => ?_) (fun c73 => absurd c73 (by decide))
      refine zJ_iload_n dX0_readClause_88 rfl ?_
      refine zJ_bipush (v := nI 60) dX0_readClause_89 rfl ?_
      refine zJ_icmp_ge 108 dX0_readClause_91 (by decide) (fun c91 => absurd c91 (nI_ge (by omega) (by omega))) (fun _ => ?_)
      refine zJ_iload dX0_readClause_94 rfl ?_
      refine zJ_if_eq 120 dX0_readClause_96 (by decide) (fun _ => ?_) (fun c96 => absurd rfl c96)
      refine zJ_iload_n dX0_readClause_120 rfl ?_
      refine zJ_if_eq 149 dX0_readClause_121 (by decide) (fun _ => ?_) (fun c121 => absurd rfl c121)
      refine zJ_iload dX0_readClause_149 rfl ?_
      refine zJ_if_eq 162 dX0_readClause_151 (by decide) (fun _ => ?_) (fun c151 => absurd rfl c151)
      refine zJ_iload dX0_readClause_162 rfl ?_
      refine zJ_if_eq 175 dX0_readClause_164 (by decide) (fun _ => ?_) (fun c164 => absurd rfl c164)
      refine zJ_iload dX0_readClause_175 rfl ?_
      refine zJ_if_eq 225 dX0_readClause_177 (by decide) (fun _ => ?_) (fun c177 => absurd rfl c177)
      refine zJ_iload dX0_readClause_225 rfl ?_
      refine zJ_if_eq 238 dX0_readClause_227 (by decide) (fun _ => ?_) (fun c227 => absurd rfl c227)
      refine zJ_aload_n dX0_readClause_238 rfl ?_
      refine zJ_aload_n dX0_readClause_239 rfl ?_
      refine zJ_iconst (v := nI 0) dX0_readClause_240 rfl ?_
      refine zJ_bipush (v := nI 9) dX0_readClause_241 rfl ?_
      refine zP_ecallVi [_, _] _ lv_X0_105 (k_numP (lo := 0) (hi := 10) (d := d - 1) hl (by omega) hs hpJ (by omega) (by omega) rfl (nI_pred 9).symm) (zSt_ob hs 1 10 rfl) rfl (by omega) (Nat.le_of_ble_eq_true rfl) rfl dX0_readClause_243 (fun x1 J1 hx1 => ?_)
      obtain ⟨c1, rfl, hc1, hf1, hp1⟩ := hx1
      refine zP_puti lf_X0_18 (zSt_ob hs 12 0 rfl) rfl dX0_readClause_246 ?_
      refine zJ_back (zle_r (zle_r (zle_n (zle_n (zle_n (zle_n (zle_n (zle_n zle_0)))))))) rfl (h249 _ (nuE bs L (woE bs L A)) (sk bs L (woE bs L A)) (pBody bs L 5 r (woE bs L A)) (fB_zup (fB_fT (fT_trans hf hf1)) (by decide)) ?_ hcls)
      refine pOk_map (fun q => ((rC r, rR r, rN r, q.2), r.2)) (pOk_zup hp1 (by decide)) (by simp only [pBody, pbind_assoc, pbind_inr]; rfl) (fun q hq => ?_)
      obtain ⟨-, a1, a2, a3⟩ := hq
      rw [a1]
      exact ⟨cRb_gn (cRb_fT hrJ (by decide) hf1), ⟨hok.1.1, hok.1.2.1, hok.1.2.2.1, hok.1.2.2.2.1, hok.1.2.2.2.2.1, by show c1 ≤ 9; omega⟩, hok.2⟩
  · rw [b0, b1, b2, b3, b4]
    have hcls : pClause bs L cl r A = .inl (1, sk bs L A) := by unfold pClause; simp only [hk, if_true]
    refine zJ_iload_n dX0_readClause_43 rfl ?_
    refine zJ_if_ne 88 dX0_readClause_44 (by decide) (fun c44 => absurd rfl c44) (fun _ => ?_)
    refine zJ_iload dX0_readClause_47 rfl ?_
    refine zJ_if_ne 88 dX0_readClause_49 (by decide) (fun c49 => absurd rfl c49) (fun _ => ?_)
    refine zJ_iload dX0_readClause_52 rfl ?_
    refine zJ_if_ne 88 dX0_readClause_54 (by decide) (fun c54 => absurd rfl c54) (fun _ => ?_)
    refine zJ_iload dX0_readClause_57 rfl ?_
    refine zJ_if_ne 88 dX0_readClause_59 (by decide) (fun c59 => absurd rfl c59) (fun _ => ?_)
    refine zJ_iload dX0_readClause_62 rfl ?_
    refine zJ_if_ne 88 dX0_readClause_64 (by decide) (fun c64 => absurd rfl c64) (fun _ => ?_)
    refine zJ_aload_n dX0_readClause_67 rfl ?_
    refine zJ_ldcS (num := 10 + 5) (tx := "gain") (List.mem_of_getElem? (i := 5) rfl) dX0_readClause_68 ?_
    refine zP_callVi [_] _ lv_X0_85 (k_wordIs (i := 5) (d := d - 1) hl (by omega) hs htJ (by decide)) (zSt_ob hs 1 10 rfl) rfl (by omega) (Nat.le_of_ble_eq_true rfl) rfl dX0_readClause_70 ?_
    rw [b5]
    refine zJ_if_ne 88 dX0_readClause_73 (by decide) (fun c73 => absurd rfl c73) (fun _ => ?_)
    refine zJ_aload_n dX0_readClause_76 rfl ?_
    refine zJ_iconst (v := nI 1) dX0_readClause_77 rfl ?_
    refine zJ_aload_n dX0_readClause_78 rfl ?_
    refine zP_geti lf_X0_98 (zSt_ob hs 1 10 rfl) rfl dX0_readClause_79 ?_
    refine zP_ecallVv [_, _] _ lv_X0_101 (k_failP (β := zRb) (Q := fun _ => False) (w := sk bs L A) (d := d - 1) hl (by omega) hs hpJ (by omega) (by omega) (tX_fr htJ)) (zSt_ob hs 1 10 rfl) rfl (by omega) (Nat.le_of_ble_eq_true rfl) rfl dX0_readClause_82 (fun J2 hJ2 => ?_)
    refine zJ_goto 249 dX0_readClause_85 (by decide) ?_
    exact zJ_back (zle_r (zle_r (zle_n (zle_n (zle_n (zle_n (zle_n (zle_n zle_0)))))))) rfl (h249 J2 _ _ (.inl (1, sk bs L A)) (fB_fT (fT_trans hf hJ2.1)) (pOk_imp hJ2.2 (fun _ z => z.elim)) hcls)
end ZBread2
