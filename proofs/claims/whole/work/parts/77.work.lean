/-! ===== Work: a step read ===== -/
section ZWorkT
variable {l : Launch} {Xi : zXi} {d : Nat} {I : zI} {g : zG}
theorem kw_cases {bs : Nat → Nat} {a w : Nat} :
    (kdW bs a w = 0 ∧ wdB bs a w 9 = true ∧ wdB bs a w 17 = false ∧ wdB bs a w 18 = false ∧ wdB bs a w 8 = false ∧ wdB bs a w 19 = false ∧ wdB bs a w 15 = false ∧ wdB bs a w 16 = false) ∨ (kdW bs a w = 1 ∧ wdB bs a w 9 = false ∧ wdB bs a w 17 = true ∧ wdB bs a w 18 = false ∧ wdB bs a w 8 = false ∧ wdB bs a w 19 = false ∧ wdB bs a w 15 = false ∧ wdB bs a w 16 = false) ∨ (kdW bs a w = 2 ∧ wdB bs a w 9 = false ∧ wdB bs a w 17 = false ∧ wdB bs a w 18 = true ∧ wdB bs a w 8 = false ∧ wdB bs a w 19 = false ∧ wdB bs a w 15 = false ∧ wdB bs a w 16 = false) ∨ (kdW bs a w = 3 ∧ wdB bs a w 9 = false ∧ wdB bs a w 17 = false ∧ wdB bs a w 18 = false ∧ wdB bs a w 8 = true ∧ wdB bs a w 19 = false ∧ wdB bs a w 15 = false ∧ wdB bs a w 16 = false) ∨ (kdW bs a w = 4 ∧ wdB bs a w 9 = false ∧ wdB bs a w 17 = false ∧ wdB bs a w 18 = false ∧ wdB bs a w 8 = false ∧ wdB bs a w 19 = true ∧ wdB bs a w 15 = false ∧ wdB bs a w 16 = false) ∨ (kdW bs a w = 5 ∧ wdB bs a w 9 = false ∧ wdB bs a w 17 = false ∧ wdB bs a w 18 = false ∧ wdB bs a w 8 = false ∧ wdB bs a w 19 = false ∧ wdB bs a w 15 = true ∧ wdB bs a w 16 = false) ∨ (kdW bs a w = 6 ∧ wdB bs a w 9 = false ∧ wdB bs a w 17 = false ∧ wdB bs a w 18 = false ∧ wdB bs a w 8 = false ∧ wdB bs a w 19 = false ∧ wdB bs a w 15 = false ∧ wdB bs a w 16 = true) ∨ (kdW bs a w = 7 ∧ wdB bs a w 9 = false ∧ wdB bs a w 17 = false ∧ wdB bs a w 18 = false ∧ wdB bs a w 8 = false ∧ wdB bs a w 19 = false ∧ wdB bs a w 15 = false ∧ wdB bs a w 16 = false) := by
  cases h0 : wdB bs a w 9 with
  | true =>
    have h1 := wd_no (by decide) (by decide) h0 (show 9 ≠ 17 by decide)
    have h2 := wd_no (by decide) (by decide) h0 (show 9 ≠ 18 by decide)
    have h3 := wd_no (by decide) (by decide) h0 (show 9 ≠ 8 by decide)
    have h4 := wd_no (by decide) (by decide) h0 (show 9 ≠ 19 by decide)
    have h5 := wd_no (by decide) (by decide) h0 (show 9 ≠ 15 by decide)
    have h6 := wd_no (by decide) (by decide) h0 (show 9 ≠ 16 by decide)
    rw [h1]
    rw [h2]
    rw [h3]
    rw [h4]
    rw [h5]
    rw [h6]
    exact Or.inl ⟨by simp [kdW, h0], rfl, rfl, rfl, rfl, rfl, rfl, rfl⟩
  | false =>
    cases h1 : wdB bs a w 17 with
    | true =>
      have h2 := wd_no (by decide) (by decide) h1 (show 17 ≠ 18 by decide)
      have h3 := wd_no (by decide) (by decide) h1 (show 17 ≠ 8 by decide)
      have h4 := wd_no (by decide) (by decide) h1 (show 17 ≠ 19 by decide)
      have h5 := wd_no (by decide) (by decide) h1 (show 17 ≠ 15 by decide)
      have h6 := wd_no (by decide) (by decide) h1 (show 17 ≠ 16 by decide)
      rw [h2]
      rw [h3]
      rw [h4]
      rw [h5]
      rw [h6]
      exact Or.inr (Or.inl ⟨by simp [kdW, h0, h1], rfl, rfl, rfl, rfl, rfl, rfl, rfl⟩)
    | false =>
      cases h2 : wdB bs a w 18 with
      | true =>
        have h3 := wd_no (by decide) (by decide) h2 (show 18 ≠ 8 by decide)
        have h4 := wd_no (by decide) (by decide) h2 (show 18 ≠ 19 by decide)
        have h5 := wd_no (by decide) (by decide) h2 (show 18 ≠ 15 by decide)
        have h6 := wd_no (by decide) (by decide) h2 (show 18 ≠ 16 by decide)
        rw [h3]
        rw [h4]
        rw [h5]
        rw [h6]
        exact Or.inr (Or.inr (Or.inl ⟨by simp [kdW, h0, h1, h2], rfl, rfl, rfl, rfl, rfl, rfl, rfl⟩))
      | false =>
        cases h3 : wdB bs a w 8 with
        | true =>
          have h4 := wd_no (by decide) (by decide) h3 (show 8 ≠ 19 by decide)
          have h5 := wd_no (by decide) (by decide) h3 (show 8 ≠ 15 by decide)
          have h6 := wd_no (by decide) (by decide) h3 (show 8 ≠ 16 by decide)
          rw [h4]
          rw [h5]
          rw [h6]
          exact Or.inr (Or.inr (Or.inr (Or.inl ⟨by simp [kdW, h0, h1, h2, h3], rfl, rfl, rfl, rfl, rfl, rfl, rfl⟩)))
        | false =>
          cases h4 : wdB bs a w 19 with
          | true =>
            have h5 := wd_no (by decide) (by decide) h4 (show 19 ≠ 15 by decide)
            have h6 := wd_no (by decide) (by decide) h4 (show 19 ≠ 16 by decide)
            rw [h5]
            rw [h6]
            exact Or.inr (Or.inr (Or.inr (Or.inr (Or.inl ⟨by simp [kdW, h0, h1, h2, h3, h4], rfl, rfl, rfl, rfl, rfl, rfl, rfl⟩))))
          | false =>
            cases h5 : wdB bs a w 15 with
            | true =>
              have h6 := wd_no (by decide) (by decide) h5 (show 15 ≠ 16 by decide)
              rw [h6]
              exact Or.inr (Or.inr (Or.inr (Or.inr (Or.inr (Or.inl ⟨by simp [kdW, h0, h1, h2, h3, h4, h5], rfl, rfl, rfl, rfl, rfl, rfl, rfl⟩)))))
            | false =>
              cases h6 : wdB bs a w 16 with
              | true =>
                exact Or.inr (Or.inr (Or.inr (Or.inr (Or.inr (Or.inr (Or.inl ⟨by simp [kdW, h0, h1, h2, h3, h4, h5, h6], rfl, rfl, rfl, rfl, rfl, rfl, rfl⟩))))))
              | false =>
                exact Or.inr (Or.inr (Or.inr (Or.inr (Or.inr (Or.inr (Or.inr (⟨by simp [kdW, h0, h1, h2, h3, h4, h5, h6], rfl, rfl, rfl, rfl, rfl, rfl, rfl⟩)))))))
/-- what one step's reading comes to: a token, or an again that opens -/
def pRS (bs : Nat → Nat) (L N C R o A : Nat) : PR tok :=
  if kdW bs (sk bs L A) (woE bs L A) = 7 then .inl (1, sk bs L A)
  else if kdW bs (sk bs L A) (woE bs L A) = 6 then (if 6 ≤ o then .inl (3, sk bs L A) else pbind (pNum bs L 0 41 (woE bs L A)) fun n A => pbind (pSign bs L 91 A) fun _ A => .inr ((6, n, 0), A))
  else pbind (pPrim bs L N C R (kdW bs (sk bs L A) (woE bs L A)) (woE bs L A)) fun q A1 => pbind (pSign bs L 59 A1) fun _ A1 => .inr ((kdW bs (sk bs L A) (woE bs L A), q.1, q.2), A1)
def wkS (J : zI) (ts : List tok) (o : Nat) (ops : Nat → Nat) (t : tok) : Prop := if t.1 = 6 then t.2.1 ≤ 40 ∧ t.2.2 = 0 ∧ wk J (ts ++ [t]) (o + 1) (un ops o ts.length) else wk J (ts ++ [t]) o ops
set_option maxHeartbeats 2000000 in
theorem k_readStep (hl : l.stackTraces = false) (hd : 6 ≤ d) (hs : zSt g) {bs : Nat → Nat} {L A F o N C R : Nat} {ts : List tok} {ops : Nat → Nat} (ht : tX I bs L A F none) (h : wk I ts o ops) (hn : ts.length < 150) (hC : I 3 0 = nI C) (hR : I 3 1 = nI R) (hN : I 3 2 = nI N) (hC8 : C ≤ 8) (hR8 : R ≤ 8) (hN6 : N ≤ 6) : zEv l Xi mX11_readStep d [.ref 35, .ref 1, .ref 3] I g (fun J => fW I J ∧ ∃ A' F', pOk J bs L A' F' (pRS bs L N C R o A) (wkS J ts o ops)) := by
  refine zC_of hl rfl rfl rfl (Nat.le_of_ble_eq_true rfl) (zav_r (zSt_ob hs 35 11 rfl).1 (zav_r (zSt_ob hs 1 10 rfl).1 (zav_r (zSt_ob hs 3 0 rfl).1 zav_0))) ?_
  have h208 : ∀ (J : zI) (A1 F1 k : Nat) (r1 : PR (Nat × Nat)), k ≠ 6 → fW I J → pOk J bs L A1 F1 r1 (fun q => wk J (ts ++ [(k, q.1, q.2)]) o ops) → pRS bs L N C R o A = (pbind r1 fun q A1 => pbind (pSign bs L 59 A1) fun _ A1 => .inr ((k, q.1, q.2), A1)) → zJ l Xi mX11_readStep d 0 0 208 [some (.ref 35), some (.ref 1), some (.ref 3), none] [] (J, g) (fun r' h' => r' = .inl none ∧ ∃ J, h' = (J, g) ∧ fW I J ∧ ∃ A' F', pOk J bs L A' F' (pRS bs L N C R o A) (wkS J ts o ops)) := by
    intro J A1 F1 k r1 hk6 hf hp he
    rw [he]
    refine zJ_aload_n dX11_readStep_208 rfl ?_
    refine zJ_bipush (v := nI 59) dX11_readStep_209 rfl ?_
    refine zP_ecallVv [_] _ lv_X11_50 (k_needP (d := d - 1) hl (by omega) hs hp (by omega)) (zSt_ob hs 1 10 rfl) rfl (by omega) (Nat.le_of_ble_eq_true rfl) rfl dX11_readStep_211 (fun J2 hJ2 => ?_)
    refine zJ_vret rfl dX11_readStep_214 ?_
    obtain ⟨hf2, A', F', hp2⟩ := hJ2
    refine ⟨rfl, J2, rfl, fW_trans hf (fW_fT hf2), A', F', pOk_map (fun q => (k, q.1, q.2)) hp2 ?_ (fun q hq => ?_)⟩
    · simp only [pbind_assoc, pbind_inr]
    · unfold wkS
      rw [if_neg hk6]
      exact wk_fT hq hf2
  refine zJ_aload_n dX11_readStep_0 rfl ?_
  refine zP_ecallVv [] _ lv_X11_58 (k_readWord (d := d - 1) hl (by omega) hs ht) (zSt_ob hs 1 10 rfl) rfl (by omega) (Nat.le_of_ble_eq_true rfl) rfl dX11_readStep_1 (fun J hJ => ?_)
  obtain ⟨hf, htJ⟩ := hJ
  have hwJ := wk_fT h hf
  have hpJ := pOk_0 htJ
  have hCJ : J 3 0 = nI C := by rw [hf 3 (by decide)]; exact hC
  have hRJ : J 3 1 = nI R := by rw [hf 3 (by decide)]; exact hR
  have hNJ : J 3 2 = nI N := by rw [hf 3 (by decide)]; exact hN
  rcases kw_cases (bs := bs) (a := sk bs L A) (w := woE bs L A) with ⟨hk, b9, b17, b18, b8, b19, b15, b16⟩ | ⟨hk, b9, b17, b18, b8, b19, b15, b16⟩ | ⟨hk, b9, b17, b18, b8, b19, b15, b16⟩ | ⟨hk, b9, b17, b18, b8, b19, b15, b16⟩ | ⟨hk, b9, b17, b18, b8, b19, b15, b16⟩ | ⟨hk, b9, b17, b18, b8, b19, b15, b16⟩ | ⟨hk, b9, b17, b18, b8, b19, b15, b16⟩ | ⟨hk, b9, b17, b18, b8, b19, b15, b16⟩
  · skip
    refine zJ_aload_n dX11_readStep_4 rfl ?_
    refine zJ_ldcS (num := 10 + 16) (tx := "again") (List.mem_of_getElem? (i := 17) rfl) dX11_readStep_5 ?_
    refine zP_callVi [_] _ lv_X11_63 (k_wordIs (i := 16) (d := d - 1) hl (by omega) hs htJ (by decide)) (zSt_ob hs 1 10 rfl) rfl (by omega) (Nat.le_of_ble_eq_true rfl) rfl dX11_readStep_7 ?_
    rw [b16]
    refine zJ_if_eq 19 dX11_readStep_10 (by decide) (fun _ => ?_) (fun c10 => absurd rfl c10)
    refine zJ_aload_n dX11_readStep_19 rfl ?_
    refine zJ_ldcS (num := 10 + 9) (tx := "round") (List.mem_of_getElem? (i := 18) rfl) dX11_readStep_20 ?_
    refine zP_callVi [_] _ lv_X11_63 (k_wordIs (i := 9) (d := d - 1) hl (by omega) hs htJ (by decide)) (zSt_ob hs 1 10 rfl) rfl (by omega) (Nat.le_of_ble_eq_true rfl) rfl dX11_readStep_22 ?_
    rw [b9]
    refine zJ_if_eq 38 dX11_readStep_25 (by decide) (fun c25 => absurd c25 (by decide)) (fun _ => ?_)
    refine zJ_aload_n dX11_readStep_28 rfl ?_
    refine zJ_iconst (v := nI 0) dX11_readStep_29 rfl ?_
    refine zJ_iconst (v := nI 0) dX11_readStep_30 rfl ?_
    refine zJ_iconst (v := nI 0) dX11_readStep_31 rfl ?_
    refine zP_callVv [_, _, _] _ lv_X11_73 (k_emitW (n := ts.length) (d := d - 1) hl (by omega) hs hwJ.1 hn) (zSt_ob hs 35 11 rfl) rfl (by omega) (Nat.le_of_ble_eq_true rfl) rfl dX11_readStep_32 ?_
    refine zJ_goto 208 dX11_readStep_35 (by decide) ?_
    refine zJ_back (zle_r (zle_r (zle_r (zle_n zle_0)))) rfl (h208 _ _ _ 0 (.inr ((0, 0), woE bs L A)) (by decide) (fun a p q => by rw [emW_row (by omega), hf a p]) (pOk_map (fun _ => (0, 0)) (pOk_of hpJ (emW_row (by decide)) (emW_row (by decide))) rfl (fun _ _ => emW_wk (k := 0) (f := 0) (t := 0) hwJ hn)) ?_)
    unfold pRS
    rw [hk]
    rfl
  · skip
    refine zJ_aload_n dX11_readStep_4 rfl ?_
    refine zJ_ldcS (num := 10 + 16) (tx := "again") (List.mem_of_getElem? (i := 17) rfl) dX11_readStep_5 ?_
    refine zP_callVi [_] _ lv_X11_63 (k_wordIs (i := 16) (d := d - 1) hl (by omega) hs htJ (by decide)) (zSt_ob hs 1 10 rfl) rfl (by omega) (Nat.le_of_ble_eq_true rfl) rfl dX11_readStep_7 ?_
    rw [b16]
    refine zJ_if_eq 19 dX11_readStep_10 (by decide) (fun _ => ?_) (fun c10 => absurd rfl c10)
    refine zJ_aload_n dX11_readStep_19 rfl ?_
    refine zJ_ldcS (num := 10 + 9) (tx := "round") (List.mem_of_getElem? (i := 18) rfl) dX11_readStep_20 ?_
    refine zP_callVi [_] _ lv_X11_63 (k_wordIs (i := 9) (d := d - 1) hl (by omega) hs htJ (by decide)) (zSt_ob hs 1 10 rfl) rfl (by omega) (Nat.le_of_ble_eq_true rfl) rfl dX11_readStep_22 ?_
    rw [b9]
    refine zJ_if_eq 38 dX11_readStep_25 (by decide) (fun _ => ?_) (fun c25 => absurd rfl c25)
    refine zJ_aload_n dX11_readStep_38 rfl ?_
    refine zJ_ldcS (num := 10 + 17) (tx := "lay") (List.mem_of_getElem? (i := 19) rfl) dX11_readStep_39 ?_
    refine zP_callVi [_] _ lv_X11_63 (k_wordIs (i := 17) (d := d - 1) hl (by omega) hs htJ (by decide)) (zSt_ob hs 1 10 rfl) rfl (by omega) (Nat.le_of_ble_eq_true rfl) rfl dX11_readStep_41 ?_
    rw [b17]
    refine zJ_if_eq 67 dX11_readStep_44 (by decide) (fun c44 => absurd c44 (by decide)) (fun _ => ?_)
    refine zJ_aload_n dX11_readStep_47 rfl ?_
    refine zJ_iconst (v := nI 1) dX11_readStep_48 rfl ?_
    refine zJ_aload_n dX11_readStep_49 rfl ?_
    refine zJ_iconst (v := nI 0) dX11_readStep_50 rfl ?_
    refine zJ_aload_n dX11_readStep_51 rfl ?_
    refine zP_geti lf_X11_79 (zSt_ob hs 3 0 rfl) rfl dX11_readStep_52 ?_
    rw [hNJ]
    refine zJ_iconst (v := nI 1) dX11_readStep_55 rfl ?_
    refine zJ_isub dX11_readStep_56 ?_
    refine zP_ecallVi [_, _] _ lv_X11_84 (k_numP (lo := 0) (hi := N) (d := d - 1) hl (by omega) hs hpJ (by omega) (by omega) rfl rfl) (zSt_ob hs 1 10 rfl) rfl (by omega) (Nat.le_of_ble_eq_true rfl) rfl dX11_readStep_57 (fun x1 J1 hx1 => ?_)
    obtain ⟨c1, rfl, hc1, f1, hp1⟩ := hx1
    have hw2 := wk_fT hwJ f1
    refine zJ_iconst (v := nI 0) dX11_readStep_60 rfl ?_
    refine zP_callVv [_, _, _] _ lv_X11_73 (k_emitW (n := ts.length) (d := d - 1) hl (by omega) hs hw2.1 hn) (zSt_ob hs 35 11 rfl) rfl (by omega) (Nat.le_of_ble_eq_true rfl) rfl dX11_readStep_61 ?_
    refine zJ_goto 208 dX11_readStep_64 (by decide) ?_
    refine zJ_back (zle_r (zle_r (zle_r (zle_n zle_0)))) rfl (h208 _ (nuE bs L (woE bs L A)) (sk bs L (woE bs L A)) 1 (pPrim bs L N C R 1 (woE bs L A)) (by decide) (fun a p q => by rw [emW_row (by omega), f1 a p, hf a p]) (pOk_map (fun q => (q.2, 0)) (pOk_of hp1 (emW_row (by decide)) (emW_row (by decide))) (by simp only [pPrim, pbind_assoc, pbind_inr]; rfl) (fun q hq => ?_)) ?_)
    · obtain ⟨-, a1, a2, a3⟩ := hq
      simp only
      rw [a1]
      exact emW_wk (t := 0) hw2 hn
    · unfold pRS
      rw [hk]
      rfl
  · skip
    refine zJ_aload_n dX11_readStep_4 rfl ?_
    refine zJ_ldcS (num := 10 + 16) (tx := "again") (List.mem_of_getElem? (i := 17) rfl) dX11_readStep_5 ?_
    refine zP_callVi [_] _ lv_X11_63 (k_wordIs (i := 16) (d := d - 1) hl (by omega) hs htJ (by decide)) (zSt_ob hs 1 10 rfl) rfl (by omega) (Nat.le_of_ble_eq_true rfl) rfl dX11_readStep_7 ?_
    rw [b16]
    refine zJ_if_eq 19 dX11_readStep_10 (by decide) (fun _ => ?_) (fun c10 => absurd rfl c10)
    refine zJ_aload_n dX11_readStep_19 rfl ?_
    refine zJ_ldcS (num := 10 + 9) (tx := "round") (List.mem_of_getElem? (i := 18) rfl) dX11_readStep_20 ?_
    refine zP_callVi [_] _ lv_X11_63 (k_wordIs (i := 9) (d := d - 1) hl (by omega) hs htJ (by decide)) (zSt_ob hs 1 10 rfl) rfl (by omega) (Nat.le_of_ble_eq_true rfl) rfl dX11_readStep_22 ?_
    rw [b9]
    refine zJ_if_eq 38 dX11_readStep_25 (by decide) (fun _ => ?_) (fun c25 => absurd rfl c25)
    refine zJ_aload_n dX11_readStep_38 rfl ?_
    refine zJ_ldcS (num := 10 + 17) (tx := "lay") (List.mem_of_getElem? (i := 19) rfl) dX11_readStep_39 ?_
    refine zP_callVi [_] _ lv_X11_63 (k_wordIs (i := 17) (d := d - 1) hl (by omega) hs htJ (by decide)) (zSt_ob hs 1 10 rfl) rfl (by omega) (Nat.le_of_ble_eq_true rfl) rfl dX11_readStep_41 ?_
    rw [b17]
    refine zJ_if_eq 67 dX11_readStep_44 (by decide) (fun _ => ?_) (fun c44 => absurd rfl c44)
    refine zJ_aload_n dX11_readStep_67 rfl ?_
    refine zJ_ldcS (num := 10 + 18) (tx := "rip") (List.mem_of_getElem? (i := 20) rfl) dX11_readStep_68 ?_
    refine zP_callVi [_] _ lv_X11_63 (k_wordIs (i := 18) (d := d - 1) hl (by omega) hs htJ (by decide)) (zSt_ob hs 1 10 rfl) rfl (by omega) (Nat.le_of_ble_eq_true rfl) rfl dX11_readStep_70 ?_
    rw [b18]
    refine zJ_if_eq 96 dX11_readStep_73 (by decide) (fun c73 => absurd c73 (by decide)) (fun _ => ?_)
    refine zJ_aload_n dX11_readStep_76 rfl ?_
    refine zJ_iconst (v := nI 2) dX11_readStep_77 rfl ?_
    refine zJ_aload_n dX11_readStep_78 rfl ?_
    refine zJ_iconst (v := nI 0) dX11_readStep_79 rfl ?_
    refine zJ_aload_n dX11_readStep_80 rfl ?_
    refine zP_geti lf_X11_79 (zSt_ob hs 3 0 rfl) rfl dX11_readStep_81 ?_
    rw [hNJ]
    refine zJ_iconst (v := nI 1) dX11_readStep_84 rfl ?_
    refine zJ_isub dX11_readStep_85 ?_
    refine zP_ecallVi [_, _] _ lv_X11_84 (k_numP (lo := 0) (hi := N) (d := d - 1) hl (by omega) hs hpJ (by omega) (by omega) rfl rfl) (zSt_ob hs 1 10 rfl) rfl (by omega) (Nat.le_of_ble_eq_true rfl) rfl dX11_readStep_86 (fun x1 J1 hx1 => ?_)
    obtain ⟨c1, rfl, hc1, f1, hp1⟩ := hx1
    have hw2 := wk_fT hwJ f1
    refine zJ_iconst (v := nI 0) dX11_readStep_89 rfl ?_
    refine zP_callVv [_, _, _] _ lv_X11_73 (k_emitW (n := ts.length) (d := d - 1) hl (by omega) hs hw2.1 hn) (zSt_ob hs 35 11 rfl) rfl (by omega) (Nat.le_of_ble_eq_true rfl) rfl dX11_readStep_90 ?_
    refine zJ_goto 208 dX11_readStep_93 (by decide) ?_
    refine zJ_back (zle_r (zle_r (zle_r (zle_n zle_0)))) rfl (h208 _ (nuE bs L (woE bs L A)) (sk bs L (woE bs L A)) 2 (pPrim bs L N C R 2 (woE bs L A)) (by decide) (fun a p q => by rw [emW_row (by omega), f1 a p, hf a p]) (pOk_map (fun q => (q.2, 0)) (pOk_of hp1 (emW_row (by decide)) (emW_row (by decide))) (by simp only [pPrim, pbind_assoc, pbind_inr]; rfl) (fun q hq => ?_)) ?_)
    · obtain ⟨-, a1, a2, a3⟩ := hq
      simp only
      rw [a1]
      exact emW_wk (t := 0) hw2 hn
    · unfold pRS
      rw [hk]
      rfl
  · skip
    refine zJ_aload_n dX11_readStep_4 rfl ?_
    refine zJ_ldcS (num := 10 + 16) (tx := "again") (List.mem_of_getElem? (i := 17) rfl) dX11_readStep_5 ?_
    refine zP_callVi [_] _ lv_X11_63 (k_wordIs (i := 16) (d := d - 1) hl (by omega) hs htJ (by decide)) (zSt_ob hs 1 10 rfl) rfl (by omega) (Nat.le_of_ble_eq_true rfl) rfl dX11_readStep_7 ?_
    rw [b16]
    refine zJ_if_eq 19 dX11_readStep_10 (by decide) (fun _ => ?_) (fun c10 => absurd rfl c10)
    refine zJ_aload_n dX11_readStep_19 rfl ?_
    refine zJ_ldcS (num := 10 + 9) (tx := "round") (List.mem_of_getElem? (i := 18) rfl) dX11_readStep_20 ?_
    refine zP_callVi [_] _ lv_X11_63 (k_wordIs (i := 9) (d := d - 1) hl (by omega) hs htJ (by decide)) (zSt_ob hs 1 10 rfl) rfl (by omega) (Nat.le_of_ble_eq_true rfl) rfl dX11_readStep_22 ?_
    rw [b9]
    refine zJ_if_eq 38 dX11_readStep_25 (by decide) (fun _ => ?_) (fun c25 => absurd rfl c25)
    refine zJ_aload_n dX11_readStep_38 rfl ?_
    refine zJ_ldcS (num := 10 + 17) (tx := "lay") (List.mem_of_getElem? (i := 19) rfl) dX11_readStep_39 ?_
    refine zP_callVi [_] _ lv_X11_63 (k_wordIs (i := 17) (d := d - 1) hl (by omega) hs htJ (by decide)) (zSt_ob hs 1 10 rfl) rfl (by omega) (Nat.le_of_ble_eq_true rfl) rfl dX11_readStep_41 ?_
    rw [b17]
    refine zJ_if_eq 67 dX11_readStep_44 (by decide) (fun _ => ?_) (fun c44 => absurd rfl c44)
    refine zJ_aload_n dX11_readStep_67 rfl ?_
    refine zJ_ldcS (num := 10 + 18) (tx := "rip") (List.mem_of_getElem? (i := 20) rfl) dX11_readStep_68 ?_
    refine zP_callVi [_] _ lv_X11_63 (k_wordIs (i := 18) (d := d - 1) hl (by omega) hs htJ (by decide)) (zSt_ob hs 1 10 rfl) rfl (by omega) (Nat.le_of_ble_eq_true rfl) rfl dX11_readStep_70 ?_
    rw [b18]
    refine zJ_if_eq 96 dX11_readStep_73 (by decide) (fun _ => ?_) (fun c73 => absurd rfl c73)
    refine zJ_aload_n dX11_readStep_96 rfl ?_
    refine zJ_ldcS (num := 10 + 8) (tx := "crit") (List.mem_of_getElem? (i := 21) rfl) dX11_readStep_97 ?_
    refine zP_callVi [_] _ lv_X11_63 (k_wordIs (i := 8) (d := d - 1) hl (by omega) hs htJ (by decide)) (zSt_ob hs 1 10 rfl) rfl (by omega) (Nat.le_of_ble_eq_true rfl) rfl dX11_readStep_99 ?_
    rw [b8]
    refine zJ_if_eq 133 dX11_readStep_102 (by decide) (fun c102 => absurd c102 (by decide)) (fun _ => ?_)
    refine zJ_aload_n dX11_readStep_105 rfl ?_
    refine zJ_iconst (v := nI 0) dX11_readStep_106 rfl ?_
    refine zJ_aload_n dX11_readStep_107 rfl ?_
    refine zP_geti lf_X11_79 (zSt_ob hs 3 0 rfl) rfl dX11_readStep_108 ?_
    rw [hNJ]
    refine zJ_iconst (v := nI 1) dX11_readStep_111 rfl ?_
    refine zJ_isub dX11_readStep_112 ?_
    refine zP_ecallVi [_, _] _ lv_X11_84 (k_numP (lo := 0) (hi := N) (d := d - 1) hl (by omega) hs hpJ (by omega) (by omega) rfl rfl) (zSt_ob hs 1 10 rfl) rfl (by omega) (Nat.le_of_ble_eq_true rfl) rfl dX11_readStep_113 (fun x1 J1 hx1 => ?_)
    obtain ⟨c1, rfl, hc1, f1, hp1⟩ := hx1
    refine zJ_istore_m 3 dX11_readStep_116 rfl (Nat.le_of_ble_eq_true rfl) (by decide) ?_
    refine zJ_aload_n dX11_readStep_117 rfl ?_
    refine zJ_iconst (v := nI 3) dX11_readStep_118 rfl ?_
    refine zJ_iload_n dX11_readStep_119 rfl ?_
    refine zJ_aload_n dX11_readStep_120 rfl ?_
    refine zJ_iconst (v := nI 0) dX11_readStep_121 rfl ?_
    refine zJ_bipush (v := nI 9) dX11_readStep_122 rfl ?_
    refine zP_ecallVi [_, _] _ lv_X11_84 (k_numP (lo := 0) (hi := 10) (d := d - 1) hl (by omega) hs hp1 (by omega) (by omega) rfl (nI_pred 9).symm) (zSt_ob hs 1 10 rfl) rfl (by omega) (Nat.le_of_ble_eq_true rfl) rfl dX11_readStep_124 (fun x2 J2 hx2 => ?_)
    obtain ⟨c2, rfl, hc2, f2, hp2⟩ := hx2
    have hw2 := wk_fT (wk_fT hwJ f1) f2
    refine zP_callVv [_, _, _] _ lv_X11_73 (k_emitW (n := ts.length) (d := d - 1) hl (by omega) hs hw2.1 hn) (zSt_ob hs 35 11 rfl) rfl (by omega) (Nat.le_of_ble_eq_true rfl) rfl dX11_readStep_127 ?_
    refine zJ_goto 208 dX11_readStep_130 (by decide) ?_
    refine zJ_back (zle_r (zle_r (zle_r (zle_n zle_0)))) rfl (h208 _ (nuE bs L (nuE bs L (woE bs L A))) (sk bs L (nuE bs L (woE bs L A))) 3 (pPrim bs L N C R 3 (woE bs L A)) (by decide) (fun a p q => by rw [emW_row (by omega), f2 a p, f1 a p, hf a p]) (pOk_map (fun q => (q.1.2, q.2)) (pOk_of hp2 (emW_row (by decide)) (emW_row (by decide))) (by simp only [pPrim, pbind_assoc, pbind_inr]; rfl) (fun q hq => ?_)) ?_)
    · obtain ⟨⟨-, a1, a2, a3⟩, a4, a5, a6⟩ := hq
      simp only
      rw [a1, a4]
      exact emW_wk hw2 hn
    · unfold pRS
      rw [hk]
      rfl
  · skip
    refine zJ_aload_n dX11_readStep_4 rfl ?_
    refine zJ_ldcS (num := 10 + 16) (tx := "again") (List.mem_of_getElem? (i := 17) rfl) dX11_readStep_5 ?_
    refine zP_callVi [_] _ lv_X11_63 (k_wordIs (i := 16) (d := d - 1) hl (by omega) hs htJ (by decide)) (zSt_ob hs 1 10 rfl) rfl (by omega) (Nat.le_of_ble_eq_true rfl) rfl dX11_readStep_7 ?_
    rw [b16]
    refine zJ_if_eq 19 dX11_readStep_10 (by decide) (fun _ => ?_) (fun c10 => absurd rfl c10)
    refine zJ_aload_n dX11_readStep_19 rfl ?_
    refine zJ_ldcS (num := 10 + 9) (tx := "round") (List.mem_of_getElem? (i := 18) rfl) dX11_readStep_20 ?_
    refine zP_callVi [_] _ lv_X11_63 (k_wordIs (i := 9) (d := d - 1) hl (by omega) hs htJ (by decide)) (zSt_ob hs 1 10 rfl) rfl (by omega) (Nat.le_of_ble_eq_true rfl) rfl dX11_readStep_22 ?_
    rw [b9]
    refine zJ_if_eq 38 dX11_readStep_25 (by decide) (fun _ => ?_) (fun c25 => absurd rfl c25)
    refine zJ_aload_n dX11_readStep_38 rfl ?_
    refine zJ_ldcS (num := 10 + 17) (tx := "lay") (List.mem_of_getElem? (i := 19) rfl) dX11_readStep_39 ?_
    refine zP_callVi [_] _ lv_X11_63 (k_wordIs (i := 17) (d := d - 1) hl (by omega) hs htJ (by decide)) (zSt_ob hs 1 10 rfl) rfl (by omega) (Nat.le_of_ble_eq_true rfl) rfl dX11_readStep_41 ?_
    rw [b17]
    refine zJ_if_eq 67 dX11_readStep_44 (by decide) (fun _ => ?_) (fun c44 => absurd rfl c44)
    refine zJ_aload_n dX11_readStep_67 rfl ?_
    refine zJ_ldcS (num := 10 + 18) (tx := "rip") (List.mem_of_getElem? (i := 20) rfl) dX11_readStep_68 ?_
    refine zP_callVi [_] _ lv_X11_63 (k_wordIs (i := 18) (d := d - 1) hl (by omega) hs htJ (by decide)) (zSt_ob hs 1 10 rfl) rfl (by omega) (Nat.le_of_ble_eq_true rfl) rfl dX11_readStep_70 ?_
    rw [b18]
    refine zJ_if_eq 96 dX11_readStep_73 (by decide) (fun _ => ?_) (fun c73 => absurd rfl c73)
    refine zJ_aload_n dX11_readStep_96 rfl ?_
    refine zJ_ldcS (num := 10 + 8) (tx := "crit") (List.mem_of_getElem? (i := 21) rfl) dX11_readStep_97 ?_
    refine zP_callVi [_] _ lv_X11_63 (k_wordIs (i := 8) (d := d - 1) hl (by omega) hs htJ (by decide)) (zSt_ob hs 1 10 rfl) rfl (by omega) (Nat.le_of_ble_eq_true rfl) rfl dX11_readStep_99 ?_
    rw [b8]
    refine zJ_if_eq 133 dX11_readStep_102 (by decide) (fun _ => ?_) (fun c102 => absurd rfl c102)
    refine zJ_aload_n dX11_readStep_133 rfl ?_
    refine zJ_ldcS (num := 10 + 19) (tx := "block") (List.mem_of_getElem? (i := 22) rfl) dX11_readStep_134 ?_
    refine zP_callVi [_] _ lv_X11_63 (k_wordIs (i := 19) (d := d - 1) hl (by omega) hs htJ (by decide)) (zSt_ob hs 1 10 rfl) rfl (by omega) (Nat.le_of_ble_eq_true rfl) rfl dX11_readStep_136 ?_
    rw [b19]
    refine zJ_if_eq 174 dX11_readStep_139 (by decide) (fun c139 => absurd c139 (by decide)) (fun _ => ?_)
    refine zJ_aload_n dX11_readStep_142 rfl ?_
    refine zJ_iconst (v := nI 0) dX11_readStep_143 rfl ?_
    refine zJ_aload_n dX11_readStep_144 rfl ?_
    refine zP_geti lf_X11_94 (zSt_ob hs 3 0 rfl) rfl dX11_readStep_145 ?_
    rw [hCJ]
    refine zJ_iconst (v := nI 1) dX11_readStep_148 rfl ?_
    refine zJ_isub dX11_readStep_149 ?_
    refine zP_ecallVi [_, _] _ lv_X11_84 (k_numP (lo := 0) (hi := C) (d := d - 1) hl (by omega) hs hpJ (by omega) (by omega) rfl rfl) (zSt_ob hs 1 10 rfl) rfl (by omega) (Nat.le_of_ble_eq_true rfl) rfl dX11_readStep_150 (fun x1 J1 hx1 => ?_)
    obtain ⟨c1, rfl, hc1, f1, hp1⟩ := hx1
    refine zJ_istore_m 3 dX11_readStep_153 rfl (Nat.le_of_ble_eq_true rfl) (by decide) ?_
    refine zJ_aload_n dX11_readStep_154 rfl ?_
    refine zJ_iconst (v := nI 4) dX11_readStep_155 rfl ?_
    refine zJ_iload_n dX11_readStep_156 rfl ?_
    refine zJ_aload_n dX11_readStep_157 rfl ?_
    refine zJ_iconst (v := nI 0) dX11_readStep_158 rfl ?_
    refine zJ_aload_n dX11_readStep_159 rfl ?_
    refine zP_geti lf_X11_97 (zSt_ob hs 3 0 rfl) rfl dX11_readStep_160 ?_
    rw [f1 3 (by decide), hRJ]
    refine zJ_iconst (v := nI 1) dX11_readStep_163 rfl ?_
    refine zJ_isub dX11_readStep_164 ?_
    refine zP_ecallVi [_, _] _ lv_X11_84 (k_numP (lo := 0) (hi := R) (d := d - 1) hl (by omega) hs hp1 (by omega) (by omega) rfl rfl) (zSt_ob hs 1 10 rfl) rfl (by omega) (Nat.le_of_ble_eq_true rfl) rfl dX11_readStep_165 (fun x2 J2 hx2 => ?_)
    obtain ⟨c2, rfl, hc2, f2, hp2⟩ := hx2
    have hw2 := wk_fT (wk_fT hwJ f1) f2
    refine zP_callVv [_, _, _] _ lv_X11_73 (k_emitW (n := ts.length) (d := d - 1) hl (by omega) hs hw2.1 hn) (zSt_ob hs 35 11 rfl) rfl (by omega) (Nat.le_of_ble_eq_true rfl) rfl dX11_readStep_168 ?_
    refine zJ_goto 208 dX11_readStep_171 (by decide) ?_
    refine zJ_back (zle_r (zle_r (zle_r (zle_n zle_0)))) rfl (h208 _ (nuE bs L (nuE bs L (woE bs L A))) (sk bs L (nuE bs L (woE bs L A))) 4 (pPrim bs L N C R 4 (woE bs L A)) (by decide) (fun a p q => by rw [emW_row (by omega), f2 a p, f1 a p, hf a p]) (pOk_map (fun q => (q.1.2, q.2)) (pOk_of hp2 (emW_row (by decide)) (emW_row (by decide))) (by simp only [pPrim, pbind_assoc, pbind_inr]; rfl) (fun q hq => ?_)) ?_)
    · obtain ⟨⟨-, a1, a2, a3⟩, a4, a5, a6⟩ := hq
      simp only
      rw [a1, a4]
      exact emW_wk hw2 hn
    · unfold pRS
      rw [hk]
      rfl
  · skip
    refine zJ_aload_n dX11_readStep_4 rfl ?_
    refine zJ_ldcS (num := 10 + 16) (tx := "again") (List.mem_of_getElem? (i := 17) rfl) dX11_readStep_5 ?_
    refine zP_callVi [_] _ lv_X11_63 (k_wordIs (i := 16) (d := d - 1) hl (by omega) hs htJ (by decide)) (zSt_ob hs 1 10 rfl) rfl (by omega) (Nat.le_of_ble_eq_true rfl) rfl dX11_readStep_7 ?_
    rw [b16]
    refine zJ_if_eq 19 dX11_readStep_10 (by decide) (fun _ => ?_) (fun c10 => absurd rfl c10)
    refine zJ_aload_n dX11_readStep_19 rfl ?_
    refine zJ_ldcS (num := 10 + 9) (tx := "round") (List.mem_of_getElem? (i := 18) rfl) dX11_readStep_20 ?_
    refine zP_callVi [_] _ lv_X11_63 (k_wordIs (i := 9) (d := d - 1) hl (by omega) hs htJ (by decide)) (zSt_ob hs 1 10 rfl) rfl (by omega) (Nat.le_of_ble_eq_true rfl) rfl dX11_readStep_22 ?_
    rw [b9]
    refine zJ_if_eq 38 dX11_readStep_25 (by decide) (fun _ => ?_) (fun c25 => absurd rfl c25)
    refine zJ_aload_n dX11_readStep_38 rfl ?_
    refine zJ_ldcS (num := 10 + 17) (tx := "lay") (List.mem_of_getElem? (i := 19) rfl) dX11_readStep_39 ?_
    refine zP_callVi [_] _ lv_X11_63 (k_wordIs (i := 17) (d := d - 1) hl (by omega) hs htJ (by decide)) (zSt_ob hs 1 10 rfl) rfl (by omega) (Nat.le_of_ble_eq_true rfl) rfl dX11_readStep_41 ?_
    rw [b17]
    refine zJ_if_eq 67 dX11_readStep_44 (by decide) (fun _ => ?_) (fun c44 => absurd rfl c44)
    refine zJ_aload_n dX11_readStep_67 rfl ?_
    refine zJ_ldcS (num := 10 + 18) (tx := "rip") (List.mem_of_getElem? (i := 20) rfl) dX11_readStep_68 ?_
    refine zP_callVi [_] _ lv_X11_63 (k_wordIs (i := 18) (d := d - 1) hl (by omega) hs htJ (by decide)) (zSt_ob hs 1 10 rfl) rfl (by omega) (Nat.le_of_ble_eq_true rfl) rfl dX11_readStep_70 ?_
    rw [b18]
    refine zJ_if_eq 96 dX11_readStep_73 (by decide) (fun _ => ?_) (fun c73 => absurd rfl c73)
    refine zJ_aload_n dX11_readStep_96 rfl ?_
    refine zJ_ldcS (num := 10 + 8) (tx := "crit") (List.mem_of_getElem? (i := 21) rfl) dX11_readStep_97 ?_
    refine zP_callVi [_] _ lv_X11_63 (k_wordIs (i := 8) (d := d - 1) hl (by omega) hs htJ (by decide)) (zSt_ob hs 1 10 rfl) rfl (by omega) (Nat.le_of_ble_eq_true rfl) rfl dX11_readStep_99 ?_
    rw [b8]
    refine zJ_if_eq 133 dX11_readStep_102 (by decide) (fun _ => ?_) (fun c102 => absurd rfl c102)
    refine zJ_aload_n dX11_readStep_133 rfl ?_
    refine zJ_ldcS (num := 10 + 19) (tx := "block") (List.mem_of_getElem? (i := 22) rfl) dX11_readStep_134 ?_
    refine zP_callVi [_] _ lv_X11_63 (k_wordIs (i := 19) (d := d - 1) hl (by omega) hs htJ (by decide)) (zSt_ob hs 1 10 rfl) rfl (by omega) (Nat.le_of_ble_eq_true rfl) rfl dX11_readStep_136 ?_
    rw [b19]
    refine zJ_if_eq 174 dX11_readStep_139 (by decide) (fun _ => ?_) (fun c139 => absurd rfl c139)
    refine zJ_aload_n dX11_readStep_174 rfl ?_
    refine zJ_ldcS (num := 10 + 15) (tx := "ease") (List.mem_of_getElem? (i := 16) rfl) dX11_readStep_175 ?_
    refine zP_callVi [_] _ lv_X11_63 (k_wordIs (i := 15) (d := d - 1) hl (by omega) hs htJ (by decide)) (zSt_ob hs 1 10 rfl) rfl (by omega) (Nat.le_of_ble_eq_true rfl) rfl dX11_readStep_177 ?_
    rw [b15]
    refine zJ_if_eq 199 dX11_readStep_180 (by decide) (fun c180 => absurd c180 (by decide)) (fun _ => ?_)
    refine zJ_aload_n dX11_readStep_183 rfl ?_
    refine zJ_iconst (v := nI 5) dX11_readStep_184 rfl ?_
    refine zJ_aload_n dX11_readStep_185 rfl ?_
    refine zJ_iconst (v := nI 1) dX11_readStep_186 rfl ?_
    refine zJ_bipush (v := nI 99) dX11_readStep_187 rfl ?_
    refine zP_ecallVi [_, _] _ lv_X11_84 (k_numP (lo := 1) (hi := 100) (d := d - 1) hl (by omega) hs hpJ (by omega) (by omega) rfl (nI_pred 99).symm) (zSt_ob hs 1 10 rfl) rfl (by omega) (Nat.le_of_ble_eq_true rfl) rfl dX11_readStep_189 (fun x1 J1 hx1 => ?_)
    obtain ⟨c1, rfl, hc1, f1, hp1⟩ := hx1
    have hw2 := wk_fT hwJ f1
    refine zJ_iconst (v := nI 0) dX11_readStep_192 rfl ?_
    refine zP_callVv [_, _, _] _ lv_X11_73 (k_emitW (n := ts.length) (d := d - 1) hl (by omega) hs hw2.1 hn) (zSt_ob hs 35 11 rfl) rfl (by omega) (Nat.le_of_ble_eq_true rfl) rfl dX11_readStep_193 ?_
    refine zJ_goto 208 dX11_readStep_196 (by decide) ?_
    refine zJ_back (zle_r (zle_r (zle_r (zle_n zle_0)))) rfl (h208 _ (nuE bs L (woE bs L A)) (sk bs L (woE bs L A)) 5 (pPrim bs L N C R 5 (woE bs L A)) (by decide) (fun a p q => by rw [emW_row (by omega), f1 a p, hf a p]) (pOk_map (fun q => (q.2, 0)) (pOk_of hp1 (emW_row (by decide)) (emW_row (by decide))) (by simp only [pPrim, pbind_assoc, pbind_inr]; rfl) (fun q hq => ?_)) ?_)
    · obtain ⟨-, a1, a2, a3⟩ := hq
      simp only
      rw [a1]
      exact emW_wk (t := 0) hw2 hn
    · unfold pRS
      rw [hk]
      rfl
  · skip
    refine zJ_aload_n dX11_readStep_4 rfl ?_
    refine zJ_ldcS (num := 10 + 16) (tx := "again") (List.mem_of_getElem? (i := 17) rfl) dX11_readStep_5 ?_
    refine zP_callVi [_] _ lv_X11_63 (k_wordIs (i := 16) (d := d - 1) hl (by omega) hs htJ (by decide)) (zSt_ob hs 1 10 rfl) rfl (by omega) (Nat.le_of_ble_eq_true rfl) rfl dX11_readStep_7 ?_
    rw [b16]
    refine zJ_if_eq 19 dX11_readStep_10 (by decide) (fun c10 => absurd c10 (by decide)) (fun _ => ?_)
    refine zJ_aload_n dX11_readStep_13 rfl ?_
    refine zJ_aload_n dX11_readStep_14 rfl ?_
    refine zP_ecallVv [_] _ lv_X11_67 (k_openAgain (d := d - 1) hl (by omega) hs htJ hwJ hn) (zSt_ob hs 35 11 rfl) rfl (by omega) (Nat.le_of_ble_eq_true rfl) rfl dX11_readStep_15 (fun J2 hJ2 => ?_)
    refine zJ_vret rfl dX11_readStep_18 ?_
    obtain ⟨f2, A', F', hp2⟩ := hJ2
    refine ⟨rfl, J2, rfl, fW_trans (fW_fT hf) f2, A', F', pOk_map (fun n => (6, n, 0)) hp2 ?_ (fun q hq => ?_)⟩
    · unfold pRS
      rw [hk, if_neg (by decide), if_pos rfl]
      by_cases e : 6 ≤ o
      · rw [if_pos e, if_pos e]; rfl
      · rw [if_neg e, if_neg e]; simp only [pbind_assoc, pbind_inr]
    · unfold wkS
      rw [if_pos rfl]
      exact ⟨hq.1, rfl, hq.2⟩
  · skip
    refine zJ_aload_n dX11_readStep_4 rfl ?_
    refine zJ_ldcS (num := 10 + 16) (tx := "again") (List.mem_of_getElem? (i := 17) rfl) dX11_readStep_5 ?_
    refine zP_callVi [_] _ lv_X11_63 (k_wordIs (i := 16) (d := d - 1) hl (by omega) hs htJ (by decide)) (zSt_ob hs 1 10 rfl) rfl (by omega) (Nat.le_of_ble_eq_true rfl) rfl dX11_readStep_7 ?_
    rw [b16]
    refine zJ_if_eq 19 dX11_readStep_10 (by decide) (fun _ => ?_) (fun c10 => absurd rfl c10)
    refine zJ_aload_n dX11_readStep_19 rfl ?_
    refine zJ_ldcS (num := 10 + 9) (tx := "round") (List.mem_of_getElem? (i := 18) rfl) dX11_readStep_20 ?_
    refine zP_callVi [_] _ lv_X11_63 (k_wordIs (i := 9) (d := d - 1) hl (by omega) hs htJ (by decide)) (zSt_ob hs 1 10 rfl) rfl (by omega) (Nat.le_of_ble_eq_true rfl) rfl dX11_readStep_22 ?_
    rw [b9]
    refine zJ_if_eq 38 dX11_readStep_25 (by decide) (fun _ => ?_) (fun c25 => absurd rfl c25)
    refine zJ_aload_n dX11_readStep_38 rfl ?_
    refine zJ_ldcS (num := 10 + 17) (tx := "lay") (List.mem_of_getElem? (i := 19) rfl) dX11_readStep_39 ?_
    refine zP_callVi [_] _ lv_X11_63 (k_wordIs (i := 17) (d := d - 1) hl (by omega) hs htJ (by decide)) (zSt_ob hs 1 10 rfl) rfl (by omega) (Nat.le_of_ble_eq_true rfl) rfl dX11_readStep_41 ?_
    rw [b17]
    refine zJ_if_eq 67 dX11_readStep_44 (by decide) (fun _ => ?_) (fun c44 => absurd rfl c44)
    refine zJ_aload_n dX11_readStep_67 rfl ?_
    refine zJ_ldcS (num := 10 + 18) (tx := "rip") (List.mem_of_getElem? (i := 20) rfl) dX11_readStep_68 ?_
    refine zP_callVi [_] _ lv_X11_63 (k_wordIs (i := 18) (d := d - 1) hl (by omega) hs htJ (by decide)) (zSt_ob hs 1 10 rfl) rfl (by omega) (Nat.le_of_ble_eq_true rfl) rfl dX11_readStep_70 ?_
    rw [b18]
    refine zJ_if_eq 96 dX11_readStep_73 (by decide) (fun _ => ?_) (fun c73 => absurd rfl c73)
    refine zJ_aload_n dX11_readStep_96 rfl ?_
    refine zJ_ldcS (num := 10 + 8) (tx := "crit") (List.mem_of_getElem? (i := 21) rfl) dX11_readStep_97 ?_
    refine zP_callVi [_] _ lv_X11_63 (k_wordIs (i := 8) (d := d - 1) hl (by omega) hs htJ (by decide)) (zSt_ob hs 1 10 rfl) rfl (by omega) (Nat.le_of_ble_eq_true rfl) rfl dX11_readStep_99 ?_
    rw [b8]
    refine zJ_if_eq 133 dX11_readStep_102 (by decide) (fun _ => ?_) (fun c102 => absurd rfl c102)
    refine zJ_aload_n dX11_readStep_133 rfl ?_
    refine zJ_ldcS (num := 10 + 19) (tx := "block") (List.mem_of_getElem? (i := 22) rfl) dX11_readStep_134 ?_
    refine zP_callVi [_] _ lv_X11_63 (k_wordIs (i := 19) (d := d - 1) hl (by omega) hs htJ (by decide)) (zSt_ob hs 1 10 rfl) rfl (by omega) (Nat.le_of_ble_eq_true rfl) rfl dX11_readStep_136 ?_
    rw [b19]
    refine zJ_if_eq 174 dX11_readStep_139 (by decide) (fun _ => ?_) (fun c139 => absurd rfl c139)
    refine zJ_aload_n dX11_readStep_174 rfl ?_
    refine zJ_ldcS (num := 10 + 15) (tx := "ease") (List.mem_of_getElem? (i := 16) rfl) dX11_readStep_175 ?_
    refine zP_callVi [_] _ lv_X11_63 (k_wordIs (i := 15) (d := d - 1) hl (by omega) hs htJ (by decide)) (zSt_ob hs 1 10 rfl) rfl (by omega) (Nat.le_of_ble_eq_true rfl) rfl dX11_readStep_177 ?_
    rw [b15]
    refine zJ_if_eq 199 dX11_readStep_180 (by decide) (fun _ => ?_) (fun c180 => absurd rfl c180)
    refine zJ_aload_n dX11_readStep_199 rfl ?_
    refine zJ_iconst (v := nI 1) dX11_readStep_200 rfl ?_
    refine zJ_aload_n dX11_readStep_201 rfl ?_
    refine zP_geti lf_X11_102 (zSt_ob hs 1 10 rfl) rfl dX11_readStep_202 ?_
    refine zP_ecallVv [_, _] _ lv_X11_105 (k_failP (β := Nat × Nat) (Q := fun q => False) (w := sk bs L A) (d := d - 1) hl (by omega) hs hpJ (by omega) (by omega) (tX_fr htJ)) (zSt_ob hs 1 10 rfl) rfl (by omega) (Nat.le_of_ble_eq_true rfl) rfl dX11_readStep_205 (fun J2 hJ2 => ?_)
    refine zJ_back (zle_r (zle_r (zle_r (zle_n zle_0)))) rfl (h208 J2 _ _ 7 (.inl (1, sk bs L A)) (by decide) (fW_fT (fT_trans hf hJ2.1)) (pOk_imp hJ2.2 (fun _ z => z.elim)) ?_)
    unfold pRS
    rw [if_pos hk]
    rfl
end ZWorkT
