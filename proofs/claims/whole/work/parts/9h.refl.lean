/-! ===== the reference: children ===== -/
section ZRefL
variable {l : Launch} {Xi : zXi} {d : Nat} {I : zI} {g : zG}
theorem cB_none {f : Nat → Bool} : ∀ {n : Nat}, (∀ k, k < n → f k = false) → cB f n = 0
  | 0, _ => rfl
  | n + 1, h => by simp only [cB]; rw [cB_none (fun k hk => h k (by omega))]; simp [h n (by omega)]
theorem cB_one {f : Nat → Bool} {x : Nat} : ∀ {n : Nat}, x < n → (∀ k, k < n → f k = true → k = x) → f x = true → cB f n = 1
  | 0, h, _, _ => by omega
  | n + 1, h, hu, hx => by
    simp only [cB]
    by_cases z : x = n
    · subst z
      rw [cB_none (fun k hk => by cases e : f k with | false => rfl | true => have := hu k (by omega) e; omega)]
      simp [hx]
    · rw [cB_one (n := n) (by omega) (fun k hk e => hu k (by omega) e) hx]
      have : f n = false := by cases e : f n with | false => rfl | true => have := hu n (by omega) e; omega
      simp [this]
theorem nbr_inj {b : zWo} {p d1 d2 q : Nat} (hb : bdOk b) (hp : p < 64) (h1 : d1 < 4) (h2 : d2 < 4) (e1 : nbr b p d1 = some q) (e2 : nbr b p d2 = some q) : d1 = d2 := by
  have k1 : d1 = 0 ∨ d1 = 1 ∨ d1 = 2 ∨ d1 = 3 := by omega
  have k2 : d2 = 0 ∨ d2 = 1 ∨ d2 = 2 ∨ d2 = 3 := by omega
  unfold nbr at e1 e2
  rcases k1 with rfl | rfl | rfl | rfl <;> rcases k2 with rfl | rfl | rfl | rfl <;> first
    | rfl
    | (exfalso
       simp at e1 e2
       omega)
def chF (b : zWo) (R : rwT) (n p d : Nat) : Bool := match nbr b p d with
  | none => false
  | some e => decide (R (n * 64 + e) = nI ((d + 2) % 4))
def chG (b : zWo) (R : rwT) (n p d q : Nat) : Bool := decide (nbr b p d = some q ∧ R (n * 64 + q) = nI ((d + 2) % 4))
theorem chG_par {b : zWo} {R : rwT} {n p q : Nat} (hb : bdOk b) (hok : okR b R) (hn : n < 6) (hp : p < 64) (hi : insM b p = true) (hq : q < 64) : cB (fun d => chG b R n p d q) 4 = if decide (parM b R n q = some p) then 1 else 0 := by
  by_cases z : parM b R n q = some p
  · rw [decide_eq_true z]
    have hR := okR_wok hok (n * 64 + q) (by omega)
    have htq : tin R n q = true := by
      cases e : tin R n q with
      | true => rfl
      | false => unfold parM at z; rw [if_pos (Or.inl (Classical.not_not.mp (of_decide_eq_false e)))] at z; cases z
    obtain ⟨dep, hdp⟩ := hok.1 n hn
    have hne : q ≠ bpn b n 0 := fun h => by rw [par_root ((root_way hdp hq htq).mpr h)] at z; cases z
    obtain ⟨v, e, w1, w2, w3, w4, w5, w6⟩ := par_of hdp hq htq hne
    rw [w6] at z; cases z
    have hs := nbr_sym hb (hdp q hq htq).1 w1 w3
    refine cB_one (x := (v + 2) % 4) (by omega) (fun k hk h => nbr_inj hb hp hk (by omega) (of_decide_eq_true h).1 hs) (decide_eq_true ⟨hs, ?_⟩)
    rw [w2, show ((v + 2) % 4 + 2) % 4 = v by omega]
  · rw [decide_eq_false z]
    refine cB_none (fun k hk => decide_eq_false (fun h => z ?_))
    obtain ⟨h1, h2⟩ := h
    have hs := nbr_sym hb hi hk h1
    unfold parM
    rw [h2, if_neg (by
      have : (k + 2) % 4 < 4 := by omega
      rintro (h | h)
      · exact nI_ne1 (by omega) h
      · have := (nI_eq (a := (k + 2) % 4) (b := 4) (by omega) (by omega)).mp h; omega), nI_clamp (by omega)]
    exact hs
theorem chF_chM {b : zWo} {R : rwT} {n p : Nat} (hb : bdOk b) (hok : okR b R) (hn : n < 6) (hp : p < 64) (hi : insM b p = true) : cB (chF b R n p) 4 = chM b R n p := by
  have h1 : smN (fun d => cB (chG b R n p d) 64) 4 = cB (chF b R n p) 4 := by
    rw [← smN_cB]
    refine smN_congr (fun d hd => ?_)
    unfold chF
    cases e : nbr b p d with
    | none => exact cB_none (fun q hq => decide_eq_false (fun h => by rw [e] at h; cases h.1))
    | some q0 =>
      have hq0 := nbr_lt hb hp e
      show cB (chG b R n p d) 64 = if decide (R (n * 64 + q0) = nI ((d + 2) % 4)) = true then 1 else 0
      by_cases z : R (n * 64 + q0) = nI ((d + 2) % 4)
      · rw [decide_eq_true z]
        exact cB_one (x := q0) hq0 (fun q hq h => by have h9 := (of_decide_eq_true h).1; rw [e] at h9; injection h9 with h9; exact h9.symm) (decide_eq_true ⟨e, z⟩)
      · rw [decide_eq_false z]
        exact cB_none (fun q hq => decide_eq_false (fun h => by obtain ⟨h9, h8⟩ := h; rw [e] at h9; injection h9 with h9; subst h9; exact z h8))
  rw [← h1, two_ways, smN_congr (f := fun q => if decide (parM b R n q = some p) then 1 else 0) (fun q hq => chG_par hb hok hn hp hi hq), smN_cB]
  rfl
theorem m_childrenOf (hl : l.stackTraces = false) (hd : 4 ≤ d) (hs : zSt g) {b : zWo} {R : rwT} (hB : rB I b) {n q : Nat} (hR : rRow I 533 b R) (hok : okR b R) (hn : n < bN b) (hq : q < 64) (hi : insM b q = true) : zD l Xi mX13_childrenOf d [.ref 74, .int (nI n), .int (nI q)] I g (some (.int (nI (chM b R n q)))) I := by
  refine zC_of hl rfl rfl rfl (Nat.le_of_ble_eq_true rfl) (zav_r (zSt_ob hs 74 13 rfl).1 (zav_i (zav_i zav_0))) ?_
  have hb := hB.1
  have hN6 := hb.2.2.2.2.1
  rw [← chF_chM hb hok (by omega) hq hi, ← cntF_nI]
  have loop : ∀ m v, v + m = 4 → zJ l Xi mX13_childrenOf d 0 0 5 [some (.ref 74), some (.int (nI n)), some (.int (nI q)), some (.int (cntF (chF b R n q) v)), some (.int (nI v)), none] [] (I, g) (fun r' h' => r' = .inl (some (.int (cntF (chF b R n q) 4))) ∧ h' = (I, g)) := by
    intro m
    induction m with
    | zero =>
      intro v hp
      obtain rfl : v = 4 := by omega
      refine zJ_iload dX13_childrenOf_5 rfl ?_
      refine zJ_iconst (v := nI 4) dX13_childrenOf_7 rfl ?_
      refine zJ_icmp_ge 60 dX13_childrenOf_8 (by decide) (fun _ => ?_) (fun c8 => absurd (nI_le (by omega) (by omega)) c8)
      refine zJ_iload_n dX13_childrenOf_60 rfl ?_
      refine zJ_iret rfl dX13_childrenOf_61 ?_
      exact ⟨rfl, rfl⟩
    | succ m ih =>
      intro v hp
      have hsu := cntF_succ (f := chF b R n q) (p := v)
      refine zJ_iload dX13_childrenOf_5 rfl ?_
      refine zJ_iconst (v := nI 4) dX13_childrenOf_7 rfl ?_
      refine zJ_icmp_ge 60 dX13_childrenOf_8 (by decide) (fun c8 => absurd c8 (nI_ge (by omega) (by omega))) (fun _ => ?_)
      refine zJ_aload_n dX13_childrenOf_11 rfl ?_
      refine zJ_iload_n dX13_childrenOf_12 rfl ?_
      refine zJ_iload dX13_childrenOf_13 rfl ?_
      refine zP_callVi [_, _] _ lv_X13_309 (k_neighbour (d := d - 1) hl (by omega) hs hB hq hi (by omega)) (zSt_ob hs 74 13 rfl) rfl (by omega) (Nat.le_of_ble_eq_true rfl) rfl dX13_childrenOf_15 ?_
      refine zJ_istore dX13_childrenOf_18 (Nat.le_of_ble_eq_true rfl) (by decide) ?_
      refine zJ_iload_n dX13_childrenOf_20 rfl ?_
      refine zJ_iload dX13_childrenOf_21 rfl ?_
      refine zJ_iconst (v := -1) dX13_childrenOf_23 rfl ?_
      refine zJ_icmp_eq 51 dX13_childrenOf_24 (by decide) (fun c24 => ?_) (fun c24 => ?_)
      · skip
        refine zJ_iconst (v := nI 0) dX13_childrenOf_51 rfl ?_
        refine zJ_iadd dX13_childrenOf_52 ?_
        refine zJ_istore_m 3 dX13_childrenOf_53 rfl (Nat.le_of_ble_eq_true rfl) (by decide) ?_
        refine zJ_iinc1 dX13_childrenOf_54 rfl (by decide) ?_
        refine zJ_goto 5 dX13_childrenOf_57 (by decide) ?_
        have hz : chF b R n q v = false := by
          unfold chF
          cases z : nbr b q v with
          | none => rfl
          | some e => rw [z] at c24; exact absurd c24 (nI_ne1 (by have := nbr_lt hb hq z; omega))
        rw [hz] at hsu
        exact zJ_back (zle_r (zle_r (zle_r (zle_i (by rw [hsu]; rfl) (zle_r (zle_n zle_0)))))) rfl (ih (v + 1) (by omega))
      · skip
        obtain ⟨e, he⟩ : ∃ e, nbr b q v = some e := by cases z : nbr b q v with | none => exact absurd (by rw [z]; rfl) c24 | some e => exact ⟨e, rfl⟩
        have he64 := nbr_lt hb hq he
        simp only [he, oI]
        refine zJ_aload_n dX13_childrenOf_27 rfl ?_
        refine zP_getr lf_X13_70 (zSt_ob hs 74 13 rfl) rfl (zSt_rf hs 74 30 533 rfl) dX13_childrenOf_28 ?_
        refine zJ_iload_n dX13_childrenOf_31 rfl ?_
        refine zJ_iload dX13_childrenOf_32 rfl ?_
        refine zP_callSi [_, _] _ ls_X13_284 (k_treeOf (d := d - 1) hl (by omega)) rfl (by omega) (Nat.le_of_ble_eq_true rfl) rfl dX13_childrenOf_34 ?_
        refine zP_iald (zSt_ar hs 533 519 rfl) (by first | assumption | with_reducible exact vp_in_nI (by omega) (by omega) | (simp (disch := omega) only [nI_add, pk_mul, pk_sub, pk_div, pk_rem, nI_clamp]; with_reducible exact vp_in_nI (by omega) (by omega))) dX13_childrenOf_37 ?_
        rw [nI_clamp (by omega), hR.1 _ (by omega)]
        refine zJ_iload dX13_childrenOf_38 rfl ?_
        refine zJ_iconst (v := nI 2) dX13_childrenOf_40 rfl ?_
        refine zJ_iadd dX13_childrenOf_41 ?_
        rw [nI_add]
        refine zJ_iconst (v := nI 4) dX13_childrenOf_42 rfl ?_
        refine zJ_irem dX13_childrenOf_43 (by decide) ?_
        rw [pk_rem (by omega) (by omega) (by omega)]
        refine zJ_icmp_ne 51 dX13_childrenOf_44 (by decide) (fun c44 => ?_) (fun c44 => ?_)
        · skip
          refine zJ_iconst (v := nI 0) dX13_childrenOf_51 rfl ?_
          refine zJ_iadd dX13_childrenOf_52 ?_
          refine zJ_istore_m 3 dX13_childrenOf_53 rfl (Nat.le_of_ble_eq_true rfl) (by decide) ?_
          refine zJ_iinc1 dX13_childrenOf_54 rfl (by decide) ?_
          refine zJ_goto 5 dX13_childrenOf_57 (by decide) ?_
          have hz : chF b R n q v = false := by
            simp only [chF, he]
            exact decide_eq_false c44
          rw [hz] at hsu
          exact zJ_back (zle_r (zle_r (zle_r (zle_i (by rw [hsu]; rfl) (zle_r (zle_n zle_0)))))) rfl (ih (v + 1) (by omega))
        · skip
          refine zJ_iconst (v := nI 1) dX13_childrenOf_47 rfl ?_
          refine zJ_goto 52 dX13_childrenOf_48 (by decide) ?_
          refine zJ_iadd dX13_childrenOf_52 ?_
          refine zJ_istore_m 3 dX13_childrenOf_53 rfl (Nat.le_of_ble_eq_true rfl) (by decide) ?_
          refine zJ_iinc1 dX13_childrenOf_54 rfl (by decide) ?_
          refine zJ_goto 5 dX13_childrenOf_57 (by decide) ?_
          have hz : chF b R n q v = true := by
            simp only [chF, he]
            exact decide_eq_true c44
          rw [hz] at hsu
          exact zJ_back (zle_r (zle_r (zle_r (zle_i (by rw [hsu]; rfl) (zle_r (zle_n zle_0)))))) rfl (ih (v + 1) (by omega))
  refine zJ_iconst (v := nI 0) dX13_childrenOf_0 rfl ?_
  refine zJ_istore_m 3 dX13_childrenOf_1 rfl (Nat.le_of_ble_eq_true rfl) (by decide) ?_
  refine zJ_iconst (v := nI 0) dX13_childrenOf_2 rfl ?_
  refine zJ_istore dX13_childrenOf_3 (Nat.le_of_ble_eq_true rfl) (by decide) ?_
  exact loop 4 0 (by omega)
end ZRefL
