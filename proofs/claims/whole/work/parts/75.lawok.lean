/-! ===== Book.read; Law.forget, copyFrom; codes of a law stand; Board.copyFrom ===== -/
section ZLawOk
variable {l : Launch} {Xi : zXi} {d : Nat} {I : zI} {g : zG}
theorem pLine_sk {bs : Nat → Nat} {L A C R : Nat} {bk : List (Nat × Nat)} : pLine bs L C R bk (sk bs L A) = pLine bs L C R bk A := by
  unfold pLine pLine0
  rw [pNum_sk, sk_sk]
theorem pLine8 {bs : Nat → Nat} {L A C R : Nat} {bk : List (Nat × Nat)} (h : 8 ≤ bk.length) : ∃ q, pLine bs L C R bk A = .inl q := by
  unfold pLine pLine0
  cases e1 : pNum bs L 0 C A with
  | inl q1 => exact ⟨q1, rfl⟩
  | inr q1 => exact ⟨(3, sk bs L A), by simp only [pbind]; rw [if_pos h]⟩
theorem k_bookRead (hl : l.stackTraces = false) (hd : 4 ≤ d) (hs : zSt g) {bs : Nat → Nat} {L F C R : Nat} (ht : tX I bs L 0 F none) (hC : I 3 0 = nI C) (hR : I 3 1 = nI R) (hC8 : C ≤ 8) (hR8 : R ≤ 8) : zEv l Xi mX1_read d [.ref 32, .ref 1, .ref 3] I g (fun J => fK I J ∧ ∃ A' F', pOk J bs L A' F' (pBook bs L C R 9 [] 0) (fun bk => cBk J bk)) := by
  refine zC_of hl rfl rfl rfl (Nat.le_of_ble_eq_true rfl) (zav_r (zSt_ob hs 32 1 rfl).1 (zav_r (zSt_ob hs 1 10 rfl).1 (zav_r (zSt_ob hs 3 0 rfl).1 zav_0))) ?_
  obtain ⟨B, hB⟩ : ∃ B, pBook bs L C R 9 [] 0 = B := ⟨_, rfl⟩
  rw [hB]
  have loop : ∀ k (J : zI) (A F : Nat) (bk : List (Nat × Nat)), bk.length + (k + 1) = 9 → fK I J → tX J bs L A F none → cBk J bk → pBook bs L C R (k + 1) bk A = B → zJ l Xi mX1_read d 0 0 7 [some (.ref 32), some (.ref 1), some (.ref 3), some (.int (nI bk.length))] [] (J, g) (fun r' h' => r' = .inl none ∧ ∃ J, h' = (J, g) ∧ fK I J ∧ ∃ A' F', pOk J bs L A' F' B (fun bk => cBk J bk)) := by
    intro k
    induction k with
    | zero =>
      intro J A F bk hk hf ht hr hb
      simp only [pBook] at hb
      refine zJ_iload_n dX1_read_7 rfl ?_
      refine zJ_bipush (v := nI 60) dX1_read_8 rfl ?_
      refine zJ_icmp_gt 40 dX1_read_10 (by decide) (fun c10 => absurd c10 (nI_nlt (by omega) (by omega))) (fun _ => ?_)
      refine zJ_aload_n dX1_read_13 rfl ?_
      refine zP_callVi [] _ lv_X1_28 (k_failed (d := d - 1) hl (by omega) hs ht) (zSt_ob hs 1 10 rfl) rfl (by omega) (Nat.le_of_ble_eq_true rfl) rfl dX1_read_14 ?_
      refine zJ_if_ne 27 dX1_read_17 (by decide) (fun c17 => absurd rfl c17) (fun _ => ?_)
      refine zJ_aload_n dX1_read_20 rfl ?_
      refine zP_ecallVi [] _ lv_X1_34 (k_ended (d := d - 1) hl (by omega) hs ht) (zSt_ob hs 1 10 rfl) rfl (by omega) (Nat.le_of_ble_eq_true rfl) rfl dX1_read_21 (fun x K hx => ?_)
      obtain ⟨rfl, hf2, ht2⟩ := hx
      refine zJ_if_eq 28 dX1_read_24 (by decide) (fun c24 => ?_) (fun c24 => ?_)
      · replace c24 := zb0.mp c24
        refine zJ_aload_n dX1_read_28 rfl ?_
        refine zJ_aload_n dX1_read_29 rfl ?_
        refine zJ_aload_n dX1_read_30 rfl ?_
        refine zP_ecallVv [_, _] _ lv_X1_37 (k_readLine (C := C) (R := R) (d := d - 1) hl (by omega) hs ht2 (cBk_fT hr hf2) (by rw [hf2 3 (by decide), hf 3 (by decide) (by decide) (by decide) (by decide)]; exact hC) (by rw [hf2 3 (by decide), hf 3 (by decide) (by decide) (by decide) (by decide)]; exact hR) hC8 hR8) (zSt_ob hs 32 1 rfl) rfl (by omega) (Nat.le_of_ble_eq_true rfl) rfl dX1_read_31 (fun K2 hK2 => ?_)
        rw [if_neg (of_decide_eq_false c24)] at hb
        obtain ⟨hf3, A', F', hp⟩ := hK2
        rw [pLine_sk] at hp
        obtain ⟨q, hq⟩ := pLine8 (bs := bs) (L := L) (A := A) (C := C) (R := R) (show 8 ≤ bk.length by omega)
        rw [hq] at hp hb
        refine zJ_iinc1 dX1_read_34 rfl (by decide) ?_
        refine zJ_goto 7 dX1_read_37 (by decide) ?_
        refine zJ_iload_n dX1_read_7 rfl ?_
        refine zJ_bipush (v := nI 60) dX1_read_8 rfl ?_
        refine zJ_icmp_gt 40 dX1_read_10 (by decide) (fun c10 => absurd c10 (nI_nlt (by omega) (by omega))) (fun _ => ?_)
        refine zJ_aload_n dX1_read_13 rfl ?_
        refine zP_callVi [] _ lv_X1_28 (k_failedP (d := d - 1) hl (by omega) hs hp) (zSt_ob hs 1 10 rfl) rfl (by omega) (Nat.le_of_ble_eq_true rfl) rfl dX1_read_14 ?_
        refine zJ_if_ne 27 dX1_read_17 (by decide) (fun _ => ?_) (fun c17 => absurd c17 (show ¬ ((1 : Int32) = 0) by decide))
        refine zJ_vret rfl dX1_read_27 ?_
        refine ⟨rfl, K2, rfl, fK_trans hf (fK_trans (fK_fT hf2) hf3), A', F', ?_⟩
        rw [← hb]
        exact ⟨hp.1, fun x a z => by cases z⟩
      · replace c24 := zb1.mp c24
        refine zJ_vret rfl dX1_read_27 ?_
        rw [if_pos (of_decide_eq_true c24)] at hb
        refine ⟨rfl, K, rfl, fK_trans hf (fK_fT hf2), sk bs L A, sk bs L A, ?_⟩
        rw [← hb]
        exact ⟨ht2, fun x a z => by cases z; exact ⟨rfl, cBk_fT hr hf2⟩⟩
    | succ k ih =>
      intro J A F bk hk hf ht hr hb
      rw [pBook] at hb
      refine zJ_iload_n dX1_read_7 rfl ?_
      refine zJ_bipush (v := nI 60) dX1_read_8 rfl ?_
      refine zJ_icmp_gt 40 dX1_read_10 (by decide) (fun c10 => absurd c10 (nI_nlt (by omega) (by omega))) (fun _ => ?_)
      refine zJ_aload_n dX1_read_13 rfl ?_
      refine zP_callVi [] _ lv_X1_28 (k_failed (d := d - 1) hl (by omega) hs ht) (zSt_ob hs 1 10 rfl) rfl (by omega) (Nat.le_of_ble_eq_true rfl) rfl dX1_read_14 ?_
      refine zJ_if_ne 27 dX1_read_17 (by decide) (fun c17 => absurd rfl c17) (fun _ => ?_)
      refine zJ_aload_n dX1_read_20 rfl ?_
      refine zP_ecallVi [] _ lv_X1_34 (k_ended (d := d - 1) hl (by omega) hs ht) (zSt_ob hs 1 10 rfl) rfl (by omega) (Nat.le_of_ble_eq_true rfl) rfl dX1_read_21 (fun x K hx => ?_)
      obtain ⟨rfl, hf2, ht2⟩ := hx
      refine zJ_if_eq 28 dX1_read_24 (by decide) (fun c24 => ?_) (fun c24 => ?_)
      · replace c24 := zb0.mp c24
        refine zJ_aload_n dX1_read_28 rfl ?_
        refine zJ_aload_n dX1_read_29 rfl ?_
        refine zJ_aload_n dX1_read_30 rfl ?_
        refine zP_ecallVv [_, _] _ lv_X1_37 (k_readLine (C := C) (R := R) (d := d - 1) hl (by omega) hs ht2 (cBk_fT hr hf2) (by rw [hf2 3 (by decide), hf 3 (by decide) (by decide) (by decide) (by decide)]; exact hC) (by rw [hf2 3 (by decide), hf 3 (by decide) (by decide) (by decide) (by decide)]; exact hR) hC8 hR8) (zSt_ob hs 32 1 rfl) rfl (by omega) (Nat.le_of_ble_eq_true rfl) rfl dX1_read_31 (fun K2 hK2 => ?_)
        rw [if_neg (of_decide_eq_false c24)] at hb
        obtain ⟨hf3, A', F', hp⟩ := hK2
        rw [pLine_sk] at hp
        cases hq : pLine bs L C R bk A with
        | inl q =>
          rw [hq] at hp hb
          refine zJ_iinc1 dX1_read_34 rfl (by decide) ?_
          refine zJ_goto 7 dX1_read_37 (by decide) ?_
          refine zJ_iload_n dX1_read_7 rfl ?_
          refine zJ_bipush (v := nI 60) dX1_read_8 rfl ?_
          refine zJ_icmp_gt 40 dX1_read_10 (by decide) (fun c10 => absurd c10 (nI_nlt (by omega) (by omega))) (fun _ => ?_)
          refine zJ_aload_n dX1_read_13 rfl ?_
          refine zP_callVi [] _ lv_X1_28 (k_failedP (d := d - 1) hl (by omega) hs hp) (zSt_ob hs 1 10 rfl) rfl (by omega) (Nat.le_of_ble_eq_true rfl) rfl dX1_read_14 ?_
          refine zJ_if_ne 27 dX1_read_17 (by decide) (fun _ => ?_) (fun c17 => absurd c17 (show ¬ ((1 : Int32) = 0) by decide))
          refine zJ_vret rfl dX1_read_27 ?_
          refine ⟨rfl, K2, rfl, fK_trans hf (fK_trans (fK_fT hf2) hf3), A', F', ?_⟩
          rw [← hb]
          exact ⟨hp.1, fun x a z => by cases z⟩
        | inr q =>
          rw [hq] at hp hb
          obtain ⟨e1, e2⟩ := hp.2 q.1 q.2 rfl
          subst e1
          refine zJ_iinc1 dX1_read_34 rfl (by decide) ?_
          refine zJ_goto 7 dX1_read_37 (by decide) ?_
          have := ih K2 q.2 F' (bk ++ [q.1]) (by rw [List.length_append, List.length_singleton]; omega) (fK_trans hf (fK_trans (fK_fT hf2) hf3)) hp.1 e2 hb
          rw [List.length_append] at this
          exact this
      · replace c24 := zb1.mp c24
        refine zJ_vret rfl dX1_read_27 ?_
        rw [if_pos (of_decide_eq_true c24)] at hb
        refine ⟨rfl, K, rfl, fK_trans hf (fK_fT hf2), sk bs L A, sk bs L A, ?_⟩
        rw [← hb]
        exact ⟨ht2, fun x a z => by cases z; exact ⟨rfl, cBk_fT hr hf2⟩⟩
  refine zJ_aload_n dX1_read_0 rfl ?_
  refine zJ_iconst (v := nI 0) dX1_read_1 rfl ?_
  refine zP_puti lf_X1_18 (zSt_ob hs 32 1 rfl) rfl dX1_read_2 ?_
  refine zJ_iconst (v := nI 0) dX1_read_5 rfl ?_
  refine zJ_istore_m 3 dX1_read_6 rfl (Nat.le_of_ble_eq_true rfl) (by decide) ?_
  exact loop 8 _ 0 F [] rfl (fun a p q r s => zup_row q) (tX_of ht (zup_row (by decide)) (zup_row (by decide))) ⟨by rw [zup_same, upd_at]; rfl, Nat.zero_le _, fun i hi => absurd hi (Nat.not_lt_zero _)⟩ hB
/-- codes from depth s to s' -/
def dpR : List Int32 → Nat → Nat → Prop
  | [], s, s' => s = s'
  | c :: cs, s, s' => codeOk c ∧ ((c < nI 2000 ∧ s < 32 ∧ dpR cs (s + 1) s') ∨ (¬ c < nI 2000 ∧ 2 ≤ s ∧ dpR cs (s - 1) s'))
theorem dpR_app : ∀ {a b : List Int32} {s t u : Nat}, dpR a s t → dpR b t u → dpR (a ++ b) s u
  | [], b, s, t, u, h1, h2 => by have h1' : s = t := h1; subst h1'; exact h2
  | c :: cs, b, s, t, u, h1, h2 => by
    obtain ⟨h3, h4⟩ := h1
    refine ⟨h3, ?_⟩
    rcases h4 with ⟨h5, h6, h7⟩ | ⟨h5, h6, h7⟩
    · exact Or.inl ⟨h5, h6, dpR_app h7 h2⟩
    · exact Or.inr ⟨h5, h6, dpR_app h7 h2⟩
theorem dpR_num {k s : Nat} (hk : k < 1000) (hs : s < 32) : dpR [nI k] s (s + 1) := ⟨Or.inl ⟨k, hk, rfl⟩, Or.inl ⟨nI_lt (by omega) (by omega), hs, rfl⟩⟩
theorem dpR_nam {k s : Nat} (hk : k < 8) (hs : s < 32) : dpR [nI (1000 + k)] s (s + 1) := ⟨Or.inr (Or.inl ⟨k, hk, rfl⟩), Or.inl ⟨nI_lt (by omega) (by omega), hs, rfl⟩⟩
theorem dpR_deed {k s : Nat} (hk : k < 7) (hs : 2 ≤ s) : dpR [nI (2000 + k)] s (s - 1) := ⟨Or.inr (Or.inr ⟨k, hk, rfl⟩), Or.inr ⟨nI_nlt (by omega) (by omega), hs, rfl⟩⟩
def hgt (m o : Nat) : Nat := (if m = 0 then 3 else if m = 2 then 2 else 1) + 3 * (6 - o)
theorem pL_dp {bs : Nat → Nat} {L : Nat} {f m o A A' : Nat} {c : List Int32} (h : pL bs L f m o A = .inr (c, A')) (ho : o ≤ 6) : ((m ≠ 1 ∧ m ≠ 3) → ∀ s, s + hgt m o ≤ 32 → dpR c s (s + 1)) ∧ (m = 1 → ∀ s, 1 ≤ s → s + hgt 2 o ≤ 32 → dpR c s s) ∧ (m = 3 → ∀ s, 1 ≤ s → s + hgt 4 o ≤ 32 → dpR c s s) := by
  induction f generalizing m o A A' c with
  | zero => cases h
  | succ f ih =>
    have rest : ∀ {m1 m2 B k : Nat}, (m1 = 2 ∧ m2 = 1 ∨ m1 = 4 ∧ m2 = 3) → k < 7 → (pbind (pL bs L f m1 o B) fun c A => pbind (pL bs L f m2 o A) fun c' A => .inr (c ++ [nI (2000 + k)] ++ c', A)) = .inr (c, A') → ∀ s, 1 ≤ s → s + hgt m1 o ≤ 32 → dpR c s s := by
      intro m1 m2 B k hm hk hh s hs1 hs2
      obtain ⟨c1, a1, e1, hh⟩ := pbind_ok hh
      obtain ⟨c2, a2, e2, hh⟩ := pbind_ok hh
      cases hh
      have i1 := (ih e1 ho).1 (by omega) s hs2
      have i2 : dpR c2 s s := by
        rcases hm with ⟨rfl, rfl⟩ | ⟨rfl, rfl⟩
        · exact (ih e2 ho).2.1 rfl s hs1 hs2
        · exact (ih e2 ho).2.2 rfl s hs1 hs2
      exact dpR_app (dpR_app i1 (dpR_deed hk (by omega))) i2
    have main : ∀ {m1 m2 : Nat}, (m1 = 2 ∧ m2 = 1 ∨ m1 = 4 ∧ m2 = 3) → (pbind (pL bs L f m1 o A) fun c A => pbind (pL bs L f m2 o A) fun c' A => .inr (c ++ c', A)) = .inr (c, A') → ∀ s, s + 1 + hgt m1 o ≤ 32 → dpR c s (s + 1) := by
      intro m1 m2 hm hh s hs
      obtain ⟨c1, a1, e1, hh⟩ := pbind_ok hh
      obtain ⟨c2, a2, e2, hh⟩ := pbind_ok hh
      cases hh
      have i1 := (ih e1 ho).1 (by omega) s (by omega)
      have i2 : dpR c2 (s + 1) (s + 1) := by
        rcases hm with ⟨rfl, rfl⟩ | ⟨rfl, rfl⟩
        · exact (ih e2 ho).2.1 rfl (s + 1) (by omega) hs
        · exact (ih e2 ho).2.2 rfl (s + 1) (by omega) hs
      exact dpR_app i1 i2
    rw [pL] at h
    by_cases m0 : m = 0
    · rw [if_pos m0] at h
      subst m0
      refine ⟨fun _ s hs => main (Or.inl ⟨rfl, rfl⟩) h s (by simp [hgt] at hs ⊢; omega), fun z => by omega, fun z => by omega⟩
    rw [if_neg m0] at h
    by_cases m1 : m = 1
    · rw [if_pos m1] at h
      refine ⟨fun z => absurd m1 z.1, fun _ s hs1 hs2 => ?_, fun z => by omega⟩
      split at h
      · exact rest (k := 0) (Or.inl ⟨rfl, rfl⟩) (by decide) h s hs1 hs2
      · split at h
        · exact rest (k := 1) (Or.inl ⟨rfl, rfl⟩) (by decide) h s hs1 hs2
        · cases h; rfl
    rw [if_neg m1] at h
    by_cases m2 : m = 2
    · rw [if_pos m2] at h
      subst m2
      refine ⟨fun _ s hs => main (Or.inr ⟨rfl, rfl⟩) h s (by simp [hgt] at hs ⊢; omega), fun z => by omega, fun z => by omega⟩
    rw [if_neg m2] at h
    by_cases m3 : m = 3
    · rw [if_pos m3] at h
      refine ⟨fun z => absurd m3 z.2, fun z => by omega, fun _ s hs1 hs2 => ?_⟩
      split at h
      · exact rest (k := 2) (Or.inr ⟨rfl, rfl⟩) (by decide) h s hs1 hs2
      · split at h
        · exact rest (k := 3) (Or.inr ⟨rfl, rfl⟩) (by decide) h s hs1 hs2
        · split at h
          · exact rest (k := 4) (Or.inr ⟨rfl, rfl⟩) (by decide) h s hs1 hs2
          · cases h; rfl
    rw [if_neg m3] at h
    refine ⟨fun _ s hs => ?_, fun z => by omega, fun z => by omega⟩
    have hs' : s + 1 + 3 * (6 - o) ≤ 32 := by unfold hgt at hs; rw [if_neg m0, if_neg m2] at hs; omega
    split at h
    · obtain ⟨v, a1, e1, hh⟩ := pbind_ok h
      cases hh
      have : v < 1000 := by
        unfold pNum at e1
        cases e : nuX bs L A 0 1000 with
        | some q => rw [e] at e1; cases e1
        | none =>
          rw [e] at e1
          cases e1
          unfold nuX at e
          split at e
          · cases e
          · split at e
            · cases e
            · next y => omega
      exact dpR_num this (by omega)
    · split at h
      · split at h
        · cases h
        · next z =>
          obtain ⟨c1, a1, e1, hh⟩ := pbind_ok h
          obtain ⟨u, a2, e2, hh⟩ := pbind_ok hh
          cases hh
          exact (ih e1 (by omega)).1 (by decide) s (by simp [hgt]; omega)
      · split at h
        · split at h
          · cases h
          · next z =>
            obtain ⟨u0, a0, e0, hh⟩ := pbind_ok h
            obtain ⟨c1, a1, e1, hh⟩ := pbind_ok hh
            obtain ⟨u1, a2, e2, hh⟩ := pbind_ok hh
            obtain ⟨c2, a3, e3, hh⟩ := pbind_ok hh
            obtain ⟨u2, a4, e4, hh⟩ := pbind_ok hh
            cases hh
            have i1 := (ih e1 (by omega)).1 (by decide) s (by simp [hgt]; omega)
            have i2 := (ih e3 (by omega)).1 (by decide) (s + 1) (by simp [hgt]; omega)
            refine dpR_app (dpR_app i1 i2) ?_
            split
            · exact dpR_deed (k := 5) (by decide) (by omega)
            · exact dpR_deed (k := 6) (by decide) (by omega)
        · split at h
          · cases h
          · next z =>
            cases h
            exact dpR_nam (kdN_len z).2 (by omega)
/-- the depth behind i codes -/
def dpA : List Int32 → Nat → Nat → Nat
  | _, s, 0 => s
  | [], s, _ + 1 => s
  | c :: cs, s, i + 1 => dpA cs (if c < nI 2000 then s + 1 else s - 1) i
theorem dpA_ok : ∀ {cs : List Int32} {s s' : Nat}, dpR cs s s' → dpA cs s 0 = s ∧ dpA cs s cs.length = s' ∧ ∀ i, i < cs.length → codeOk (cs.getD i 0) ∧ (cs.getD i 0 < nI 2000 → dpA cs s i < 32 ∧ dpA cs s (i + 1) = dpA cs s i + 1) ∧ (¬ cs.getD i 0 < nI 2000 → 2 ≤ dpA cs s i ∧ dpA cs s (i + 1) = dpA cs s i - 1)
  | [], s, s', h => ⟨by simp [dpA], by have h' : s = s' := h; simp [dpA, h'], fun i hi => absurd hi (Nat.not_lt_zero _)⟩
  | c :: cs, s, s', h => by
    obtain ⟨h3, h4⟩ := h
    have key : ∀ t, t = (if c < nI 2000 then s + 1 else s - 1) → dpR cs t s' → (c < nI 2000 → s < 32) → (¬ c < nI 2000 → 2 ≤ s) → dpA (c :: cs) s 0 = s ∧ dpA (c :: cs) s (c :: cs).length = s' ∧ ∀ i, i < (c :: cs).length → codeOk ((c :: cs).getD i 0) ∧ ((c :: cs).getD i 0 < nI 2000 → dpA (c :: cs) s i < 32 ∧ dpA (c :: cs) s (i + 1) = dpA (c :: cs) s i + 1) ∧ (¬ (c :: cs).getD i 0 < nI 2000 → 2 ≤ dpA (c :: cs) s i ∧ dpA (c :: cs) s (i + 1) = dpA (c :: cs) s i - 1) := by
      intro t ht hd k1 k2
      obtain ⟨i1, i2, i3⟩ := dpA_ok hd
      refine ⟨by simp [dpA], ?_, fun i hi => ?_⟩
      · show dpA cs (if c < nI 2000 then s + 1 else s - 1) cs.length = s'
        rw [← ht]; exact i2
      · cases i with
        | zero =>
          have e0 : dpA (c :: cs) s 0 = s := by simp [dpA]
          have e1 : dpA (c :: cs) s (0 + 1) = t := by show dpA cs (if c < nI 2000 then s + 1 else s - 1) 0 = t; rw [← ht]; exact i1
          rw [e0, e1]
          show codeOk c ∧ (c < nI 2000 → _) ∧ (¬ c < nI 2000 → _)
          exact ⟨h3, fun z => ⟨k1 z, by rw [ht, if_pos z]⟩, fun z => ⟨k2 z, by rw [ht, if_neg z]⟩⟩
        | succ i =>
          have := i3 i (by simp at hi; omega)
          show codeOk (cs.getD i 0) ∧ (cs.getD i 0 < nI 2000 → dpA cs (if c < nI 2000 then s + 1 else s - 1) i < 32 ∧ dpA cs (if c < nI 2000 then s + 1 else s - 1) (i + 1) = dpA cs (if c < nI 2000 then s + 1 else s - 1) i + 1) ∧ (¬ cs.getD i 0 < nI 2000 → 2 ≤ dpA cs (if c < nI 2000 then s + 1 else s - 1) i ∧ dpA cs (if c < nI 2000 then s + 1 else s - 1) (i + 1) = dpA cs (if c < nI 2000 then s + 1 else s - 1) i - 1)
          rw [← ht]
          exact this
    rcases h4 with ⟨h5, h6, h7⟩ | ⟨h5, h6, h7⟩
    · exact key (s + 1) (by rw [if_pos h5]) h7 (fun _ => h6) (fun z => absurd h5 z)
    · exact key (s - 1) (by rw [if_neg h5]) h7 (fun z => absurd z h5) (fun _ => h6)
theorem pLaw_ok {bs : Nat → Nat} {L A : Nat} {cs : List Int32} (h : pLaw bs L = .inr (cs, A)) (hL : L ≤ 150) : lawOk (fun i => cs.getD i 0) cs.length ∧ 1 ≤ cs.length := by
  unfold pLaw at h
  obtain ⟨c, a, e, h⟩ := pbind_ok h
  split at h
  · cases h
    have h1 := pL_ok e (Nat.zero_le _)
    have h2 := (pL_dp e (by decide)).1 (by decide) 0 (by decide)
    obtain ⟨i1, i2, i3⟩ := dpA_ok h2
    exact ⟨⟨by omega, dpA cs 0, i1, i2, i3⟩, h1.2.2 (by decide)⟩
  · cases h
theorem zLW_ok : lawOk zLW 15 := by
  have h : dpR [nI 1, nI 1000, nI 1001, nI 1003, nI 3, nI 2000, nI 2002, nI 2000, nI 10, nI 1002, nI 2001, nI 2002, nI 10, nI 2003, nI 2000] 0 1 := by
    refine dpR_app (a := [nI 1]) (dpR_num (by decide) (by decide)) (dpR_app (a := [nI 1000]) (dpR_nam (k := 0) (by decide) (by decide)) (dpR_app (a := [nI 1001]) (dpR_nam (k := 1) (by decide) (by decide)) (dpR_app (a := [nI 1003]) (dpR_nam (k := 3) (by decide) (by decide)) (dpR_app (a := [nI 3]) (dpR_num (by decide) (by decide)) (dpR_app (a := [nI 2000]) (dpR_deed (k := 0) (by decide) (by decide)) (dpR_app (a := [nI 2002]) (dpR_deed (k := 2) (by decide) (by decide)) (dpR_app (a := [nI 2000]) (dpR_deed (k := 0) (by decide) (by decide)) (dpR_app (a := [nI 10]) (dpR_num (by decide) (by decide)) (dpR_app (a := [nI 1002]) (dpR_nam (k := 2) (by decide) (by decide)) (dpR_app (a := [nI 2001]) (dpR_deed (k := 1) (by decide) (by decide)) (dpR_app (a := [nI 2002]) (dpR_deed (k := 2) (by decide) (by decide)) (dpR_app (a := [nI 10]) (dpR_num (by decide) (by decide)) (dpR_app (a := [nI 2003]) (dpR_deed (k := 3) (by decide) (by decide)) (dpR_deed (k := 0) (by decide) (by decide)))))))))))))))
  obtain ⟨i1, i2, i3⟩ := dpA_ok h
  exact ⟨by decide, _, i1, i2, i3⟩
theorem k_lawForget (hl : l.stackTraces = false) (hd : 2 ≤ d) {c : Nat} (hc : zK g c 5 zLt_Law) : zEv l Xi mX5_forget d [.ref c] I g (fun J => (∀ a, a ≠ c → a ≠ c + 2 → J a = I a) ∧ (∀ k, k ≠ 3 → J c k = I c k) ∧ J c 3 = nI 15 ∧ ∀ i, i < 15 → J (c + 2) i = zLW i) := by
  refine zC_of hl rfl rfl rfl (Nat.le_of_ble_eq_true rfl) (zav_r hc.1.1 zav_0) ?_
  refine zJ_getLW rfl dX5_forget_0 ?_
  refine zJ_iconst (v := nI 0) dX5_forget_3 rfl ?_
  refine zJ_aload_n dX5_forget_4 rfl ?_
  refine zP_getr lf_X5_15 hc.1 rfl (zK_rf hc 1 1 2 150 rfl) dX5_forget_5 ?_
  refine zJ_iconst (v := nI 0) dX5_forget_8 rfl ?_
  refine zJ_getLW rfl dX5_forget_9 ?_
  refine zJ_alenLW dX5_forget_12 ?_
  refine zJ_copyLW (h := (_, _)) lc_X5_27 (zK_ar hc 1 1 2 150 rfl).1 (zK_ar hc 1 1 2 150 rfl).2 (show (15 : Int32) = nI 15 from rfl) (by decide) (by decide) (Nat.le_of_ble_eq_true rfl) (by omega) dX5_forget_13 ?_
  refine zJ_aload_n dX5_forget_16 rfl ?_
  refine zJ_getLW rfl dX5_forget_17 ?_
  refine zJ_alenLW dX5_forget_20 ?_
  refine zP_puti lf_X5_33 hc.1 rfl dX5_forget_21 ?_
  refine zJ_vret rfl dX5_forget_24 ?_
  refine ⟨rfl, _, rfl, fun a p q => ?_, fun k hk => ?_, ?_, fun i hi => ?_⟩
  · rw [zup_row p, va_up_row q]
  · rw [zup_same, upd_ne hk, va_up_row (by omega)]
  · rw [zup_same, upd_at]; rfl
  · rw [zup_row (by omega), va_up_same, pk_cpy_in (by omega) (by omega)]; simp
theorem k_lawCopy (hl : l.stackTraces = false) (hd : 2 ≤ d) {c e n : Nat} (hc : zK g c 5 zLt_Law) (he : zK g e 5 zLt_Law) (hce : c + 3 < e ∨ e + 3 < c) (hn : I e 3 = nI n) (hn2 : n ≤ 150) : zEv l Xi mX5_copyFrom d [.ref c, .ref e] I g (fun J => (∀ a, a ≠ c → a ≠ c + 2 → J a = I a) ∧ (∀ k, k ≠ 3 → J c k = I c k) ∧ J c 3 = nI n ∧ ∀ i, i < n → J (c + 2) i = I (e + 2) i) := by
  refine zC_of hl rfl rfl rfl (Nat.le_of_ble_eq_true rfl) (zav_r hc.1.1 (zav_r he.1.1 zav_0)) ?_
  refine zJ_aload_n dX5_copyFrom_0 rfl ?_
  refine zP_getr lf_X5_15 he.1 rfl (zK_rf he 1 1 2 150 rfl) dX5_copyFrom_1 ?_
  refine zJ_iconst (v := nI 0) dX5_copyFrom_4 rfl ?_
  refine zJ_aload_n dX5_copyFrom_5 rfl ?_
  refine zP_getr lf_X5_15 hc.1 rfl (zK_rf hc 1 1 2 150 rfl) dX5_copyFrom_6 ?_
  refine zJ_iconst (v := nI 0) dX5_copyFrom_9 rfl ?_
  refine zJ_aload_n dX5_copyFrom_10 rfl ?_
  refine zP_geti lf_X5_33 he.1 rfl dX5_copyFrom_11 ?_
  rw [hn]
  refine zP_copy lc_X5_27 (zK_ar he 1 1 2 150 rfl) (zK_ar hc 1 1 2 150 rfl) (sp := 0) (dp := 0) (n := n) rfl rfl rfl (by omega) (by omega) (by decide) (Nat.le_of_ble_eq_true rfl) (by omega) dX5_copyFrom_14 ?_
  refine zJ_aload_n dX5_copyFrom_17 rfl ?_
  refine zJ_aload_n dX5_copyFrom_18 rfl ?_
  refine zP_geti lf_X5_33 he.1 rfl dX5_copyFrom_19 ?_
  rw [va_up_row (by omega), hn]
  refine zP_puti lf_X5_33 hc.1 rfl dX5_copyFrom_22 ?_
  refine zJ_vret rfl dX5_copyFrom_25 ?_
  refine ⟨rfl, _, rfl, fun a p q => ?_, fun k hk => ?_, ?_, fun i hi => ?_⟩
  · rw [zup_row p, va_up_row q]
  · rw [zup_same, upd_ne hk, va_up_row (by omega)]
  · rw [zup_same, upd_at]
  · rw [zup_row (by omega), va_up_same, pk_cpy_in (by omega) (by omega)]; simp
end ZLawOk
