/-! ===== Board: finish, read, copyFrom ===== -/
section ZBoardR
variable {l : Launch} {Xi : zXi} {d : Nat} {I : zI} {g : zG}
def fkp (r : zRb) (n : Nat) : List Nat := kpL (rC r) (rR r) (rpn r n) (rpc r n)
def fpc (r : zRb) (n : Nat) : Nat := (fkp r n).length
def fpn (r : zRb) (n i : Nat) : Nat := (fkp r n).getD i 0
def fpb (r : zRb) (p n : Nat) : Bool := (fkp r n).contains p
def fwl (r : zRb) (p : Nat) : Bool := rwl r p && insB (rC r) (rR r) p && !(anyB (fpb r p) (rN r))
theorem fpc_le {r : zRb} {n : Nat} : fpc r n ≤ rpc r n := kpL_len
def cFin (I : zI) (b : Nat) (r : zRb) : Prop := (I b 0 = nI (rC r) ∧ I b 1 = nI (rR r) ∧ I b 2 = nI (rN r) ∧ I b 3 = nI (rG r)) ∧ (∀ n, n < rN r → I (b + 1) n = nI (rcr r n) ∧ I (b + 2) n = nI (rlm r n)) ∧ (∀ n, n < 6 → I (b + 3) n = nI (fpc r n)) ∧ (∀ n i, n < 6 → i < fpc r n → I (b + 4) (n * 4 + i) = nI (fpn r n i)) ∧ (∀ p, p < 64 → I (b + 6) p = nI (rwd r p)) ∧ (∀ p, p < 64 → I (b + 7) p = if fwl r p then 1 else 0) ∧ (∀ p, p < 64 → I (b + 5) p = bitF (fpb r p) (rN r)) ∧ ∀ p v, p < 64 → v < 4 → I (b + 8) (p * 4 + v) = oI (nbC (rC r) (rR r) p v)
theorem bitF_z {f : Nat → Bool} : ∀ {N : Nat}, N ≤ 6 → ((bitF f N = 0) ↔ anyB f N = false)
  | 0, _ => ⟨fun _ => rfl, fun _ => rfl⟩
  | N + 1, hN => by
    constructor
    · intro h
      cases e : anyB f (N + 1) with
      | false => rfl
      | true =>
        obtain ⟨i, hi, hf⟩ := anyB_iff.mp e
        have := bit_F (f := f) hi hN
        rw [h, hf] at this
        have hd : ∀ i, i < 7 → bitB 0 i = false := by decide
        rw [hd i (by omega)] at this
        cases this
    · intro h
      simp only [anyB, Bool.or_eq_false_iff] at h
      rw [bitF_succ, (bitF_z (by omega)).mpr h.1, h.2]
      simp
def fiI (b : Nat) (r : zRb) (n : Nat) (I J : zI) : Prop := (∀ a, a ≠ b + 3 → a ≠ b + 4 → a ≠ b + 5 → J a = I a) ∧ (∀ m, m < 6 → J (b + 3) m = nI (if m < n then fpc r m else rpc r m)) ∧ (∀ m i, m < 6 → m < n → i < fpc r m → J (b + 4) (m * 4 + i) = nI (fpn r m i)) ∧ (∀ m i, m < 6 → n ≤ m → i < rpc r m → J (b + 4) (m * 4 + i) = nI (rpn r m i)) ∧ ∀ p, p < 64 → J (b + 5) p = bitF (fpb r p) n
def fiW (b : Nat) (r : zRb) (p : Nat) (I J : zI) : Prop := (∀ a, a ≠ b + 7 → a ≠ b + 8 → J a = I a) ∧ (∀ q, q < 64 → J (b + 7) q = if (if q < p then fwl r q else rwl r q) then 1 else 0) ∧ ∀ q v, q < p → v < 4 → J (b + 8) (q * 4 + v) = oI (nbC (rC r) (rR r) q v)
set_option maxHeartbeats 1000000 in
theorem k_finish (hl : l.stackTraces = false) (hd : 3 ≤ d) {b : Nat} {r : zRb} (hb : zK g b 0 zLt_Board) (hr : cRb I b r) (hok : rbOk r) : zEv l Xi mX0_finish d [.ref b] I g (fun J => fO b I J ∧ cFin J b r) := by
  refine zC_of hl rfl rfl rfl (Nat.le_of_ble_eq_true rfl) (zav_r hb.1.1 zav_0) ?_
  obtain ⟨⟨hC, hR, hN, hG⟩, r2, r3, r4, r5, r6, r7⟩ := hr
  obtain ⟨⟨o1, o2, o3, o4, o5, o6⟩, o7, o8, o9, o10⟩ := hok
  have h53 : ∀ (J1 : zI) (p : Nat) (K : zI), p < 64 → fiI b r (rN r) I J1 → (∀ a, a ≠ b + 7 → a ≠ b + 8 → K a = J1 a) → (∀ q, q < 64 → K (b + 7) q = if (if q < p + 1 then fwl r q else rwl r q) then 1 else 0) → (∀ q v, q < p → v < 4 → K (b + 8) (q * 4 + v) = oI (nbC (rC r) (rR r) q v)) → (∀ J, fiW b r (p + 1) J1 J → zJ l Xi mX0_finish d 0 0 23 [some (.ref b), some (.int (nI (p + 1)))] [] (J, g) (fun r' h' => r' = .inl none ∧ ∃ I', h' = (I', g) ∧ fO b I I' ∧ cFin I' b r)) → zJ l Xi mX0_finish d 0 0 53 [some (.ref b), some (.int (nI p))] [] (K, g) (fun r' h' => r' = .inl none ∧ ∃ I', h' = (I', g) ∧ fO b I I' ∧ cFin I' b r) := by
    intro J1 p K hp hI1 k1 k2 k3 ih
    have kb : K b = I b := by rw [k1 b (by omega) (by omega), hI1.1 b (by omega) (by omega) (by omega)]
    refine zJ_aload_n dX0_finish_53 rfl ?_
    refine zJ_iload_n dX0_finish_54 rfl ?_
    refine zP_ecallVv [_] _ lv_X0_135 (k_findBeside (C := rC r) (R := rR r) (d := d - 1) hl (by omega) hb hp (by rw [kb]; exact hC) (by rw [kb]; exact hR) o2 o4) hb.1 rfl (by omega) (Nat.le_of_ble_eq_true rfl) rfl dX0_finish_55 (fun J hJ => ?_)
    refine zJ_iinc1 dX0_finish_58 rfl (by decide) ?_
    refine zJ_goto 23 dX0_finish_61 (by decide) ?_
    refine ih J ⟨fun a x y => by rw [hJ.1 a y]; exact k1 a x y, fun q hq => by rw [hJ.1 _ (by omega)]; exact k2 q hq, fun q v hq hv => ?_⟩
    by_cases z : q = p
    · rw [z]; exact hJ.2.2 v hv
    · rw [hJ.2.1 _ (by omega)]; exact k3 q v (by omega) hv
  have lw : ∀ (J1 : zI), fiI b r (rN r) I J1 → ∀ m p, p + m = 64 → ∀ J, fiW b r p J1 J → zJ l Xi mX0_finish d 0 0 23 [some (.ref b), some (.int (nI p))] [] (J, g) (fun r' h' => r' = .inl none ∧ ∃ I', h' = (I', g) ∧ fO b I I' ∧ cFin I' b r) := by
    intro J1 hI1 m
    induction m with
    | zero =>
      intro p hp J hI
      obtain rfl : p = 64 := by omega
      obtain ⟨i1, i2, i3, i4, i5⟩ := hI1
      obtain ⟨w1, w2, w3⟩ := hI
      have kb : J b = I b := by rw [w1 b (by omega) (by omega), i1 b (by omega) (by omega) (by omega)]
      refine zJ_iload_n dX0_finish_23 rfl ?_
      refine zJ_bipush (v := nI 64) dX0_finish_24 rfl ?_
      refine zJ_icmp_ge 64 dX0_finish_26 (by decide) (fun _ => ?_) (fun c26 => absurd (nI_le (by omega) (by omega)) c26)
      refine zJ_vret rfl dX0_finish_64 ?_
      refine ⟨rfl, J, rfl, fun a ha => by rw [w1 a (by omega) (by omega)]; exact i1 a (by omega) (by omega) (by omega), ⟨by rw [kb]; exact hC, by rw [kb]; exact hR, by rw [kb]; exact hN, by rw [kb]; exact hG⟩, fun n hn => ?_, fun n hn => ?_, fun n i hn hi => ?_, fun p hp => ?_, fun p hp => ?_, fun p hp => ?_, fun p v hp hv => w3 p v hp hv⟩
      · rw [w1 _ (by omega) (by omega), w1 _ (by omega) (by omega), i1 _ (by omega) (by omega) (by omega), i1 _ (by omega) (by omega) (by omega)]; exact r2 n hn
      · rw [w1 _ (by omega) (by omega), i2 n hn]
        by_cases z : n < rN r
        · rw [if_pos z]
        · rw [if_neg z, (o7 n hn).2 (by omega)]
          have := fpc_le (r := r) (n := n)
          rw [(o7 n hn).2 (by omega)] at this
          rw [show fpc r n = 0 by omega]
      · rw [w1 _ (by omega) (by omega)]
        by_cases z : n < rN r
        · exact i3 n i hn z hi
        · have := fpc_le (r := r) (n := n)
          rw [(o7 n hn).2 (by omega)] at this
          omega
      · rw [w1 _ (by omega) (by omega), i1 _ (by omega) (by omega) (by omega)]; exact r5 p hp
      · rw [w2 p hp, if_pos hp]
      · rw [w1 _ (by omega) (by omega)]; exact i5 p hp
    | succ m ih =>
      intro p hp J hI
      have hJ := hI
      obtain ⟨w1, w2, w3⟩ := hI
      have kb : J b = I b := by rw [w1 b (by omega) (by omega), hI1.1 b (by omega) (by omega) (by omega)]
      have hpb : J (b + 5) p = bitF (fpb r p) (rN r) := by rw [w1 _ (by omega) (by omega)]; exact hI1.2.2.2.2 p (by omega)
      have hset : fwl r p = false → ∀ q, q < 64 → zup J (b + 7) p 0 (b + 7) q = if (if q < p + 1 then fwl r q else rwl r q) then 1 else 0 := fun hf q hq => by
        rw [zup_same]
        by_cases z : q = p
        · rw [z, upd_at, if_pos (show p < p + 1 by omega), hf]; rfl
        · rw [upd_ne z, w2 q hq]
          by_cases y : q < p
          · rw [if_pos y, if_pos (show q < p + 1 by omega)]
          · rw [if_neg y, if_neg (show ¬ q < p + 1 by omega)]
      refine zJ_iload_n dX0_finish_23 rfl ?_
      refine zJ_bipush (v := nI 64) dX0_finish_24 rfl ?_
      refine zJ_icmp_ge 64 dX0_finish_26 (by decide) (fun c26 => absurd c26 (nI_ge (by omega) (by omega))) (fun _ => ?_)
      refine zJ_aload_n dX0_finish_29 rfl ?_
      refine zJ_iload_n dX0_finish_30 rfl ?_
      refine zP_callVi [_] _ lv_X0_131 (k_X0_isInside (C := rC r) (R := rR r) (d := d - 1) hl (by omega) hb (by rw [kb]; exact hC) (by rw [kb]; exact hR) o2 o4 (by omega)) hb.1 rfl (by omega) (Nat.le_of_ble_eq_true rfl) rfl dX0_finish_31 ?_
      refine zJ_if_eq 46 dX0_finish_34 (by decide) (fun c34 => ?_) (fun c34 => ?_)
      · replace c34 := zb0.mp c34
        refine zJ_aload_n dX0_finish_46 rfl ?_
        refine zP_getr lf_X0_40 hb.1 rfl (zK_rf hb 6 10 7 64 rfl) dX0_finish_47 ?_
        refine zJ_iload_n dX0_finish_50 rfl ?_
        refine zJ_iconst (v := nI 0) dX0_finish_51 rfl ?_
        refine zP_iast (zK_ar hb 6 10 7 64 rfl) (by first | assumption | with_reducible exact vp_in_nI (by omega) (by omega) | (simp (disch := omega) only [nI_add, pk_mul, pk_sub, pk_div, pk_rem, nI_clamp]; with_reducible exact vp_in_nI (by omega) (by omega))) dX0_finish_52 ?_
        rw [nI_clamp (by omega)]
        refine h53 J1 p _ (by omega) hI1 (fun a x y => by rw [zup_row x]; exact w1 a x y) (hset ?_) (fun q v hq hv => by rw [zup_row (by omega)]; exact w3 q v hq hv) (fun K hK => ih (p + 1) (by omega) K hK)
        unfold fwl; rw [c34]; simp
      · replace c34 := zb1.mp c34
        refine zJ_aload_n dX0_finish_37 rfl ?_
        refine zP_getr lf_X0_34 hb.1 rfl (zK_rf hb 4 8 5 64 rfl) dX0_finish_38 ?_
        refine zJ_iload_n dX0_finish_41 rfl ?_
        refine zP_iald (zK_ar hb 4 8 5 64 rfl) (by first | assumption | with_reducible exact vp_in_nI (by omega) (by omega) | (simp (disch := omega) only [nI_add, pk_mul, pk_sub, pk_div, pk_rem, nI_clamp]; with_reducible exact vp_in_nI (by omega) (by omega))) dX0_finish_42 ?_
        rw [nI_clamp (by omega), hpb]
        refine zJ_if_eq 53 dX0_finish_43 (by decide) (fun c43 => ?_) (fun c43 => ?_)
        · skip
          refine h53 J1 p J (by omega) hI1 w1 (fun q hq => ?_) w3 (fun K hK => ih (p + 1) (by omega) K hK)
          rw [w2 q hq]
          by_cases z : q = p
          · rw [z, if_neg (Nat.lt_irrefl _), if_pos (show p < p + 1 by omega)]
            have : fwl r p = rwl r p := by unfold fwl; rw [c34, (bitF_z o5).mp c43]; simp
            rw [this]
          · by_cases y : q < p
            · rw [if_pos y, if_pos (show q < p + 1 by omega)]
            · rw [if_neg y, if_neg (show ¬ q < p + 1 by omega)]
        · skip
          refine zJ_aload_n dX0_finish_46 rfl ?_
          refine zP_getr lf_X0_40 hb.1 rfl (zK_rf hb 6 10 7 64 rfl) dX0_finish_47 ?_
          refine zJ_iload_n dX0_finish_50 rfl ?_
          refine zJ_iconst (v := nI 0) dX0_finish_51 rfl ?_
          refine zP_iast (zK_ar hb 6 10 7 64 rfl) (by first | assumption | with_reducible exact vp_in_nI (by omega) (by omega) | (simp (disch := omega) only [nI_add, pk_mul, pk_sub, pk_div, pk_rem, nI_clamp]; with_reducible exact vp_in_nI (by omega) (by omega))) dX0_finish_52 ?_
          rw [nI_clamp (by omega)]
          refine h53 J1 p _ (by omega) hI1 (fun a x y => by rw [zup_row x]; exact w1 a x y) (hset ?_) (fun q v hq hv => by rw [zup_row (by omega)]; exact w3 q v hq hv) (fun K hK => ih (p + 1) (by omega) K hK)
          have : anyB (fpb r p) (rN r) = true := by
            cases e : anyB (fpb r p) (rN r) with
            | true => rfl
            | false => exact absurd ((bitF_z o5).mpr e) c43
          unfold fwl; rw [this]; simp
  have ln : ∀ m n, n + m = rN r → ∀ (J : zI), (fiI b r n I J) → zJ l Xi mX0_finish d 0 0 2 [some (.ref b), some (.int (nI n))] [] (J, g) (fun r' h' => r' = .inl none ∧ ∃ I', h' = (I', g) ∧ fO b I I' ∧ cFin I' b r) := by
    intro m
    induction m with
    | zero =>
      intro n hp J hI
      obtain rfl : n = rN r := by omega
      refine zJ_iload_n dX0_finish_2 rfl ?_
      refine zJ_aload_n dX0_finish_3 rfl ?_
      refine zP_geti lf_X0_52 hb.1 rfl dX0_finish_4 ?_
      refine zJ_icmp_ge 21 dX0_finish_7 (by decide) (fun _ => ?_) (fun c7 => absurd (by rw [hI.1 b (by omega) (by omega) (by omega), hN]; exact nI_le (by omega) (by omega)) c7)
      refine zJ_iconst (v := nI 0) dX0_finish_21 rfl ?_
      refine zJ_istore_m 1 dX0_finish_22 rfl (Nat.le_of_ble_eq_true rfl) (by decide) ?_
      refine lw J hI 64 0 (by omega) J ⟨fun _ _ _ => rfl, fun q hq => ?_, fun q v hq => absurd hq (Nat.not_lt_zero _)⟩
      rw [if_neg (Nat.not_lt_zero _), hI.1 _ (by omega) (by omega) (by omega)]
      exact r6 q hq
    | succ m ih =>
      intro n hp J hI
      have hI0 := hI
      obtain ⟨i1, i2, i3, i4, i5⟩ := hI0
      refine zJ_iload_n dX0_finish_2 rfl ?_
      refine zJ_aload_n dX0_finish_3 rfl ?_
      refine zP_geti lf_X0_52 hb.1 rfl dX0_finish_4 ?_
      refine zJ_icmp_ge 21 dX0_finish_7 (by decide) (fun c7 => absurd c7 (by rw [hI.1 b (by omega) (by omega) (by omega), hN]; exact nI_ge (by omega) (by omega))) (fun _ => ?_)
      refine zJ_aload_n dX0_finish_10 rfl ?_
      refine zJ_iload_n dX0_finish_11 rfl ?_
      refine zP_ecallVv [_] _ lv_X0_127 (k_keepPins (C := rC r) (R := rR r) (pc := rpc r n) (pn := rpn r n) (F := fpb r) (d := d - 1) hl (by omega) hb (by omega) (by rw [i1 b (by omega) (by omega) (by omega)]; exact hC) (by rw [i1 b (by omega) (by omega) (by omega)]; exact hR) o2 o4 (by rw [i2 n (by omega), if_neg (Nat.lt_irrefl _)]) (o7 n (by omega)).1 (fun i hi => ⟨i4 n i (by omega) (Nat.le_refl _) hi, o8 n i (by omega) hi⟩) i5) hb.1 rfl (by omega) (Nat.le_of_ble_eq_true rfl) rfl dX0_finish_12 (fun K hK => ?_)
      refine zJ_iinc1 dX0_finish_15 rfl (by decide) ?_
      refine zJ_goto 2 dX0_finish_18 (by decide) ?_
      obtain ⟨k1, k2, k3, k4, k5⟩ := hK
      refine zJ_back (zle_r (zle_r zle_0)) rfl (ih (n + 1) (by omega) K ⟨fun a x y z => by rw [k1 a x y z]; exact i1 a x y z, fun m hm => ?_, fun m i hm hmn hi => ?_, fun m i hm hmn hi => ?_, fun p hp => ?_⟩)
      · rw [k2]
        by_cases z : m = n
        · rw [z, upd_at, if_pos (show n < n + 1 by omega)]; rfl
        · rw [upd_ne z, i2 m hm]
          by_cases y : m < n
          · rw [if_pos y, if_pos (show m < n + 1 by omega)]
          · rw [if_neg y, if_neg (show ¬ m < n + 1 by omega)]
      · by_cases z : m = n
        · subst z; exact k4 i hi
        · have := fpc_le (r := r) (n := m); have := (o7 m hm).1
          rw [k3 _ (by omega)]; exact i3 m i hm (by omega) hi
      · have := (o7 m hm).1
        rw [k3 _ (by omega)]; exact i4 m i hm (by omega) hi
      · rw [k5 p hp]
        refine bitF_congr (fun k hk => ?_)
        unfold kpF
        by_cases z : k = n
        · rw [if_pos z, z]; rfl
        · rw [if_neg z]
  refine zJ_iconst (v := nI 0) dX0_finish_0 rfl ?_
  refine zJ_istore_m 1 dX0_finish_1 rfl (Nat.le_of_ble_eq_true rfl) (by decide) ?_
  exact ln (rN r) 0 (by omega) I ⟨fun _ _ _ _ => rfl, fun m hm => by rw [if_neg (Nat.not_lt_zero _)]; exact r3 m hm, fun m i _ z => absurd z (Nat.not_lt_zero _), fun m i hm _ hi => r4 m i hm hi, fun p hp => r7 p hp⟩
theorem sp_stop {P : Nat → Bool} {L : Nat} : ∀ {k a : Nat}, L - a ≤ k → ¬ (spF P L k a < L ∧ P (spF P L k a) = true)
  | 0, a, h => fun z => by simp only [spF] at z; omega
  | k + 1, a, h => by
    simp only [spF]
    split
    · exact sp_stop (by omega)
    · next z => intro y; simp at z; rw [z y.1] at y; cases y.2
theorem sp_sp {P : Nat → Bool} {L a : Nat} : sp P L (sp P L a) = sp P L a := by
  rw [sp_step, if_neg]
  exact sp_stop (Nat.le_refl _)
theorem sk_sk {bs : Nat → Nat} {L A : Nat} : sk bs L (sk bs L A) = sk bs L A := sp_sp
theorem woE_sk {bs : Nat → Nat} {L A : Nat} : woE bs L (sk bs L A) = woE bs L A := by unfold woE; rw [sk_sk]
theorem pClause_sk {bs : Nat → Nat} {L A cl : Nat} {r : zRb} : pClause bs L cl r (sk bs L A) = pClause bs L cl r A := by unfold pClause; rw [sk_sk, woE_sk]
theorem pCl60 {bs : Nat → Nat} {L A cl : Nat} {r : zRb} (h : 60 ≤ cl) : ∃ q, pClause bs L cl r A = .inl q := by
  unfold pClause
  by_cases e : kdC bs (sk bs L A) (woE bs L A) = 6
  · exact ⟨(1, sk bs L A), by simp only [e, if_true]⟩
  · exact ⟨(3, sk bs L A), by simp only [e, if_false]; rw [if_pos (Or.inl h)]⟩
theorem k_read0 (hl : l.stackTraces = false) (hd : 7 ≤ d) (hs : zSt g) {bs : Nat → Nat} {L F : Nat} (ht : tX I bs L 0 F none) : zEv l Xi mX0_read d [.ref 12, .ref 1] I g (fun J => fB 12 I J ∧ ∃ A' F', pOk J bs L A' F' (pBoard bs L 61 0 rb0 0) (fun r => cFin J 12 r ∧ rbOk r)) := by
  refine zC_of hl rfl rfl rfl (Nat.le_of_ble_eq_true rfl) (zav_r (zSt_ob hs 12 0 rfl).1 (zav_r (zSt_ob hs 1 10 rfl).1 zav_0)) ?_
  obtain ⟨B, hB⟩ : ∃ B, pBoard bs L 61 0 rb0 0 = B := ⟨_, rfl⟩
  rw [hB]
  have h42 : ∀ (J : zI) (A F : Nat), fB 12 I J → pOk J bs L A F B (fun r => cRb J 12 r ∧ rbOk r) → zJ l Xi mX0_read d 0 0 42 [some (.ref 12), some (.ref 1), none] [] (J, g) (fun r' h' => r' = .inl none ∧ ∃ J, h' = (J, g) ∧ fB 12 I J ∧ ∃ A' F', pOk J bs L A' F' B (fun r => cFin J 12 r ∧ rbOk r)) := by
    intro J A F hf hp
    cases e : (toE B).isSome with
    | true =>
      refine zJ_aload_n dX0_read_42 rfl ?_
      refine zP_callVi [] _ lv_X0_61 (k_failedP (d := d - 1) hl (by omega) hs hp) (zSt_ob hs 1 10 rfl) rfl (by omega) (Nat.le_of_ble_eq_true rfl) rfl dX0_read_43 ?_
      rw [e]
      refine zJ_if_ne 53 dX0_read_46 (by decide) (fun _ => ?_) (fun c46 => absurd c46 (by decide))
      refine zJ_vret rfl dX0_read_53 ?_
      obtain ⟨q, rfl⟩ := toE_no e
      exact ⟨rfl, J, rfl, hf, A, F, hp.1, fun x a z => by cases z⟩
    | false =>
      obtain ⟨x, hx, hx1, hx2⟩ := toE_ok hp e
      refine zJ_aload_n dX0_read_42 rfl ?_
      refine zP_callVi [] _ lv_X0_61 (k_failedP (d := d - 1) hl (by omega) hs hp) (zSt_ob hs 1 10 rfl) rfl (by omega) (Nat.le_of_ble_eq_true rfl) rfl dX0_read_43 ?_
      rw [e]
      refine zJ_if_ne 53 dX0_read_46 (by decide) (fun c46 => absurd rfl c46) (fun _ => ?_)
      refine zJ_aload_n dX0_read_49 rfl ?_
      refine zP_ecallVv [] _ lv_X0_49 (k_finish (d := d - 1) hl (by omega) (zSt_spareBoard hs) hx1 hx2) (zSt_ob hs 12 0 rfl) rfl (by omega) (Nat.le_of_ble_eq_true rfl) rfl dX0_read_50 (fun K hK => ?_)
      refine zJ_vret rfl dX0_read_53 ?_
      refine ⟨rfl, K, rfl, fB_trans hf (fun a _ q => hK.1 a q), A, F, tX_of hp.1 (hK.1 1 (by decide)) (hK.1 2 (by decide)), fun y a z => ?_⟩
      rw [hx] at z
      cases z
      exact ⟨rfl, hK.2, hx2⟩
  have loop : ∀ k i (J : zI) (A F : Nat) (r : zRb), i + (k + 1) = 61 → fB 12 I J → tX J bs L A F none → cRb J 12 r → rbOk r → pBoard bs L (k + 1) i r A = B → zJ l Xi mX0_read d 0 0 6 [some (.ref 12), some (.ref 1), some (.int (nI i))] [] (J, g) (fun r' h' => r' = .inl none ∧ ∃ J, h' = (J, g) ∧ fB 12 I J ∧ ∃ A' F', pOk J bs L A' F' B (fun r => cFin J 12 r ∧ rbOk r)) := by
    intro k
    induction k with
    | zero =>
      intro i J A F r hi hf ht hr hok hb
      simp only [pBoard] at hb
      refine zJ_iload_n dX0_read_6 rfl ?_
      refine zJ_sipush (v := nI 600) dX0_read_7 rfl ?_
      refine zJ_icmp_gt 42 dX0_read_10 (by decide) (fun c10 => absurd c10 (nI_nlt (by omega) (by omega))) (fun _ => ?_)
      refine zJ_aload_n dX0_read_13 rfl ?_
      refine zP_callVi [] _ lv_X0_61 (k_failed (d := d - 1) hl (by omega) hs ht) (zSt_ob hs 1 10 rfl) rfl (by omega) (Nat.le_of_ble_eq_true rfl) rfl dX0_read_14 ?_
      refine zJ_if_ne 42 dX0_read_17 (by decide) (fun c17 => absurd rfl c17) (fun _ => ?_)
      refine zJ_aload_n dX0_read_20 rfl ?_
      refine zP_ecallVi [] _ lv_X0_67 (k_ended (d := d - 1) hl (by omega) hs ht) (zSt_ob hs 1 10 rfl) rfl (by omega) (Nat.le_of_ble_eq_true rfl) rfl dX0_read_21 (fun x K hx => ?_)
      obtain ⟨rfl, hf2, ht2⟩ := hx
      refine zJ_if_eq 30 dX0_read_24 (by decide) (fun c24 => ?_) (fun c24 => ?_)
      · replace c24 := zb0.mp c24
        refine zJ_aload_n dX0_read_30 rfl ?_
        refine zJ_aload_n dX0_read_31 rfl ?_
        refine zJ_iload_n dX0_read_32 rfl ?_
        refine zP_ecallVv [_, _] _ lv_X0_70 (k_readClause (d := d - 1) hl (by omega) hs ht2 (cRb_fT hr (by decide) hf2) hok (by omega)) (zSt_ob hs 12 0 rfl) rfl (by omega) (Nat.le_of_ble_eq_true rfl) rfl dX0_read_33 (fun K2 hK2 => ?_)
        have c24' := of_decide_eq_false c24
        rw [if_neg c24'] at hb
        obtain ⟨hf3, A', F', hp⟩ := hK2
        rw [pClause_sk] at hp
        obtain ⟨q, hq⟩ := pCl60 (bs := bs) (L := L) (A := A) (r := r) (show 60 ≤ i by omega)
        rw [hq] at hp hb
        refine zJ_iinc1 dX0_read_36 rfl (by decide) ?_
        refine zJ_goto 6 dX0_read_39 (by decide) ?_
        refine zJ_iload_n dX0_read_6 rfl ?_
        refine zJ_sipush (v := nI 600) dX0_read_7 rfl ?_
        refine zJ_icmp_gt 42 dX0_read_10 (by decide) (fun c10 => absurd c10 (nI_nlt (by omega) (by omega))) (fun _ => ?_)
        refine zJ_aload_n dX0_read_13 rfl ?_
        refine zP_callVi [] _ lv_X0_61 (k_failedP (d := d - 1) hl (by omega) hs hp) (zSt_ob hs 1 10 rfl) rfl (by omega) (Nat.le_of_ble_eq_true rfl) rfl dX0_read_14 ?_
        refine zJ_if_ne 42 dX0_read_17 (by decide) (fun _ => ?_) (fun c17 => absurd c17 (show ¬ ((1 : Int32) = 0) by decide))
        exact zJ_back (zle_r (zle_r (zle_n zle_0))) rfl (h42 K2 A' F' (fB_trans hf (fB_trans (fB_fT hf2) hf3)) (by rw [← hb]; exact hp))
      · replace c24 := zb1.mp c24
        refine zJ_goto 42 dX0_read_27 (by decide) ?_
        have c24' := of_decide_eq_true c24
        rw [if_pos c24'] at hb
        refine zJ_back (zle_r (zle_r (zle_n zle_0))) rfl (h42 K (sk bs L A) (sk bs L A) (fB_trans hf (fB_fT hf2)) ?_)
        rw [← hb]
        exact ⟨ht2, fun x a z => by cases z; exact ⟨rfl, cRb_fT hr (by decide) hf2, hok⟩⟩
    | succ k ih =>
      intro i J A F r hi hf ht hr hok hb
      rw [pBoard] at hb
      refine zJ_iload_n dX0_read_6 rfl ?_
      refine zJ_sipush (v := nI 600) dX0_read_7 rfl ?_
      refine zJ_icmp_gt 42 dX0_read_10 (by decide) (fun c10 => absurd c10 (nI_nlt (by omega) (by omega))) (fun _ => ?_)
      refine zJ_aload_n dX0_read_13 rfl ?_
      refine zP_callVi [] _ lv_X0_61 (k_failed (d := d - 1) hl (by omega) hs ht) (zSt_ob hs 1 10 rfl) rfl (by omega) (Nat.le_of_ble_eq_true rfl) rfl dX0_read_14 ?_
      refine zJ_if_ne 42 dX0_read_17 (by decide) (fun c17 => absurd rfl c17) (fun _ => ?_)
      refine zJ_aload_n dX0_read_20 rfl ?_
      refine zP_ecallVi [] _ lv_X0_67 (k_ended (d := d - 1) hl (by omega) hs ht) (zSt_ob hs 1 10 rfl) rfl (by omega) (Nat.le_of_ble_eq_true rfl) rfl dX0_read_21 (fun x K hx => ?_)
      obtain ⟨rfl, hf2, ht2⟩ := hx
      refine zJ_if_eq 30 dX0_read_24 (by decide) (fun c24 => ?_) (fun c24 => ?_)
      · replace c24 := zb0.mp c24
        refine zJ_aload_n dX0_read_30 rfl ?_
        refine zJ_aload_n dX0_read_31 rfl ?_
        refine zJ_iload_n dX0_read_32 rfl ?_
        refine zP_ecallVv [_, _] _ lv_X0_70 (k_readClause (d := d - 1) hl (by omega) hs ht2 (cRb_fT hr (by decide) hf2) hok (by omega)) (zSt_ob hs 12 0 rfl) rfl (by omega) (Nat.le_of_ble_eq_true rfl) rfl dX0_read_33 (fun K2 hK2 => ?_)
        have c24' := of_decide_eq_false c24
        rw [if_neg c24'] at hb
        obtain ⟨hf3, A', F', hp⟩ := hK2
        rw [pClause_sk] at hp
        cases hq : pClause bs L i r A with
        | inl q =>
          rw [hq] at hp hb
          refine zJ_iinc1 dX0_read_36 rfl (by decide) ?_
          refine zJ_goto 6 dX0_read_39 (by decide) ?_
          refine zJ_iload_n dX0_read_6 rfl ?_
          refine zJ_sipush (v := nI 600) dX0_read_7 rfl ?_
          refine zJ_icmp_gt 42 dX0_read_10 (by decide) (fun c10 => absurd c10 (nI_nlt (by omega) (by omega))) (fun _ => ?_)
          refine zJ_aload_n dX0_read_13 rfl ?_
          refine zP_callVi [] _ lv_X0_61 (k_failedP (d := d - 1) hl (by omega) hs hp) (zSt_ob hs 1 10 rfl) rfl (by omega) (Nat.le_of_ble_eq_true rfl) rfl dX0_read_14 ?_
          refine zJ_if_ne 42 dX0_read_17 (by decide) (fun _ => ?_) (fun c17 => absurd c17 (show ¬ ((1 : Int32) = 0) by decide))
          refine zJ_back (zle_r (zle_r (zle_n zle_0))) rfl (h42 K2 A' F' (fB_trans hf (fB_trans (fB_fT hf2) hf3)) ?_)
          rw [← hb]
          exact ⟨hp.1, fun x a z => by cases z⟩
        | inr q =>
          rw [hq] at hp hb
          obtain ⟨e1, e2, e3⟩ := hp.2 q.1 q.2 rfl
          subst e1
          refine zJ_iinc1 dX0_read_36 rfl (by decide) ?_
          refine zJ_goto 6 dX0_read_39 (by decide) ?_
          exact ih (i + 1) K2 q.2 F' q.1 (by omega) (fB_trans hf (fB_trans (fB_fT hf2) hf3)) hp.1 e2 e3 hb
      · replace c24 := zb1.mp c24
        refine zJ_goto 42 dX0_read_27 (by decide) ?_
        have c24' := of_decide_eq_true c24
        rw [if_pos c24'] at hb
        refine zJ_back (zle_r (zle_r (zle_n zle_0))) rfl (h42 K (sk bs L A) (sk bs L A) (fB_trans hf (fB_fT hf2)) ?_)
        rw [← hb]
        exact ⟨ht2, fun x a z => by cases z; exact ⟨rfl, cRb_fT hr (by decide) hf2, hok⟩⟩
  refine zJ_aload_n dX0_read_0 rfl ?_
  refine zP_ecallVv [] _ lv_X0_46 (k_clear (d := d - 1) hl (by omega) (zSt_spareBoard hs)) (zSt_ob hs 12 0 rfl) rfl (by omega) (Nat.le_of_ble_eq_true rfl) rfl dX0_read_1 (fun J hJ => ?_)
  refine zJ_iconst (v := nI 0) dX0_read_4 rfl ?_
  refine zJ_istore_m 2 dX0_read_5 rfl (Nat.le_of_ble_eq_true rfl) (by decide) ?_
  exact loop 60 0 J 0 F rb0 (by omega) (fun a _ q => hJ.1 a q) (tX_of ht (hJ.1 1 (by decide)) (hJ.1 2 (by decide))) hJ.2 rb0_ok hB
end ZBoardR
