/-! ===== the reference: widens ===== -/
section ZRefAU
variable {l : Launch} {Xi : zXi} {d : Nat} {I : zI} {g : zG}
def er (o : Option Nat) : Int32 := nI (o.getD 99998 + 1)
def bjK (b : zWo) (wl : Nat → Bool) (a : Nat → Option Nat) (M : Nat) (F : Nat → Option Nat) : Prop := (∀ p v, p < 64 → a p = some v → ∃ x, F p = some x ∧ x ≤ v) ∧ (∀ p v, p < 64 → F p = some v → a p = some v ∨ (wl p = false ∧ insM b p = true ∧ ∃ e x, e < 64 ∧ adM b e p ∧ F e = some x ∧ x + 1 ≤ v)) ∧ (∀ p v, p < 64 → F p = some v → v ≤ M + cB (fun q => (F q).isSome) 64) ∧ ∀ p, p < 64 → insM b p = false → F p = none
def bjC (b : zWo) (F : Nat → Option Nat) (p v : Nat) : Prop := ∀ e x, nbr b p v = some e → F e = some x → ∃ u, F p = some u ∧ u ≤ x + 1
theorem bj_step {b : zWo} {wl : Nat → Bool} {a F : Nat → Option Nat} {M p e x : Nat} (hM : M ≤ 90000) (hp : p < 64) (he : e < 64) (hw : wl p = false) (hi : insM b p = true) (had : adM b e p) (hx : F e = some x) (hlt : ∀ u, F p = some u → x + 1 < u) (h : bjK b wl a M F) : bjK b wl a M (setO F p (x + 1)) ∧ muF (setO F p (x + 1)) < muF F := by
  obtain ⟨h1, h2, h3, h4⟩ := h
  have hne : e ≠ p := fun z => by subst z; have := hlt x hx; omega
  have s1 : setO F p (x + 1) p = some (x + 1) := by simp [setO]
  have s2 : ∀ q, q ≠ p → setO F p (x + 1) q = F q := fun q hq => by simp [setO, hq]
  have h64 : cB (fun q => (setO F p (x + 1) q).isSome) 64 ≤ 64 := cB_le
  have hcnt : x + 1 ≤ M + cB (fun q => (setO F p (x + 1) q).isSome) 64 ∧ cB (fun q => (F q).isSome) 64 ≤ cB (fun q => (setO F p (x + 1) q).isSome) 64 := by
    have hx4 := h3 e x he hx
    cases eF : F p with
    | none =>
      have := cB_up1 (f := fun q => (F q).isSome) (f' := fun q => (setO F p (x + 1) q).isSome) (p := p) (n := 64) hp (fun k hk => by rw [s2 k hk]) (by simp [eF]) (by simp [s1])
      rw [this]; omega
    | some u =>
      have e2 : cB (fun q => (setO F p (x + 1) q).isSome) 64 = cB (fun q => (F q).isSome) 64 := cB_congr (fun k hk => by
        by_cases z : k = p
        · subst z; rw [s1, eF]; rfl
        · rw [s2 k z])
      rw [e2]
      have := h3 p u hp eF
      have := hlt u eF
      omega
  refine ⟨⟨fun q v hq hv => ?_, fun q v hq hv => ?_, fun q v hq hv => ?_, fun q hq hiq => ?_⟩, ?_⟩
  · obtain ⟨y, hy, hle⟩ := h1 q v hq hv
    by_cases z : q = p
    · subst z; exact ⟨x + 1, s1, by have := hlt y hy; omega⟩
    · exact ⟨y, by rw [s2 q z]; exact hy, hle⟩
  · by_cases z : q = p
    · subst z
      rw [s1] at hv; cases hv
      exact Or.inr ⟨hw, hi, e, x, he, had, by rw [s2 e hne]; exact hx, Nat.le_refl _⟩
    · rw [s2 q z] at hv
      rcases h2 q v hq hv with k | ⟨k0, k0', e', x', k1, k2, k3, k4⟩
      · exact Or.inl k
      · by_cases z2 : e' = p
        · subst z2
          have := hlt x' k3
          exact Or.inr ⟨k0, k0', e', x + 1, k1, k2, s1, by omega⟩
        · exact Or.inr ⟨k0, k0', e', x', k1, k2, by rw [s2 e' z2]; exact k3, k4⟩
  · by_cases z : q = p
    · subst z
      rw [s1] at hv; cases hv
      exact hcnt.1
    · rw [s2 q z] at hv
      have := h3 q v hq hv
      omega
  · rw [s2 q (fun z => by subst z; rw [hi] at hiq; cases hiq)]; exact h4 q hq hiq
  · refine smN_lt hp (fun k hk => by rw [s2 k hk]) ?_
    rw [s1]
    cases eF : F p with
    | none => show x + 1 < 100000; omega
    | some u => exact hlt u eF
theorem bj_end {b : zWo} {wl : Nat → Bool} {a F : Nat → Option Nat} {M : Nat} (hb : bdOk b) (h : bjK b wl a M F) (hcl : ∀ p, p < 64 → wl p = false → insM b p = true → ∀ v, v < 4 → bjC b F p v) : FPj a wl (adM b) F := by
  obtain ⟨h1, h2, h3, h4⟩ := h
  have up : ∀ p e x, p < 64 → e < 64 → wl p = false → adM b e p → F e = some x → ∃ u, F p = some u ∧ u ≤ x + 1 := fun p e x hp he hw had hx => by
    obtain ⟨w, hw4, hnb⟩ := had
    have hie : insM b e = true := by
      cases z : insM b e with
      | true => rfl
      | false => rw [h4 e he z] at hx; cases hx
    exact hcl p hp hw (nbr_ins hb hie hnb) ((w + 2) % 4) (by omega) e x (nbr_sym hb hie hw4 hnb) hx
  refine fun p hp => ⟨fun v hv => h1 p v hp hv, fun hw e x he had hx => up p e x hp he hw had hx, fun v hv => ?_⟩
  rcases h2 p v hp hv with k | ⟨k0, k0', e, x, k1, k2, k3, k4⟩
  · exact Or.inl k
  · obtain ⟨u, hu, hle⟩ := up p e x hp k1 k0 k2 k3
    rw [hv] at hu; cases hu
    exact Or.inr ⟨k0, e, x, k1, k2, k3, by omega⟩
set_option maxHeartbeats 2000000 in
theorem m_widens (hl : l.stackTraces = false) (hd : 5 ≤ d) (hs : zSt g) {b : zWo} {R : rwT} (hB : rB I b) (hR : rRow I 533 b R) (hok : okR b R) {w M : Nat} {a : Nat → Option Nat} (hw : w < 16) (hM : M ≤ 90000) (ha : ∀ p, p < 64 → I (560 + 1 + w) p = er (a p)) (hin : ∀ p, p < 64 → insM b p = false → a p = none) (haM : ∀ p v, p < 64 → a p = some v → v ≤ M) : zEv l Xi mX13_widens d [.ref 74, .int (nI w)] I g (fun J => (∀ c, c ≠ 560 + 1 + w → J c = I c) ∧ ∀ p, p < 64 → J (560 + 1 + w) p = er (clJ a (wlR R) (adM b) p)) := by
  refine zC_of hl rfl rfl rfl (Nat.le_of_ble_eq_true rfl) (zav_r (zSt_ob hs 74 13 rfl).1 (zav_i zav_0)) ?_
  have hb := hB.1
  have ha33 := zSt_ar hs 533 519 rfl
  obtain ⟨post, hpost⟩ : ∃ post : zR → zH → Prop, post = (fun r' h' => r' = .inl none ∧ ∃ J, h' = (J, g) ∧ (∀ c, c ≠ 560 + 1 + w → J c = I c) ∧ ∀ p, p < 64 → J (560 + 1 + w) p = er (clJ a (wlR R) (adM b) p)) := ⟨_, rfl⟩
  rw [← hpost]
  have hwl : ∀ p, p < 64 → (wlR R p = true ↔ R (448 + p) = nI 1) := fun p hp => by
    unfold wlR
    rcases hok.2.2.1 p hp with e | e <;> rw [e] <;> decide
  have pass : ∀ (m : Nat) (F : Nat → Option Nat) (J : zI), muF F = m → bjK b (wlR R) a M F → (∀ q, q ≠ 560 + 1 + w → J q = I q) → (∀ q, q < 64 → J (560 + 1 + w) q = er (F q)) → zJ l Xi mX13_widens d 0 0 2 [some (.ref 74), some (.int (nI w)), some (.int (nI 1)), none, none, none] [] (J, g) post := by
    intro m
    induction m using Nat.strongRecOn with
    | ind m IH =>
      intro F0 J0 hm0 hF0 hJ0 hJ07
      have ploop : ∀ k p, p + k = 64 → ∀ (F : Nat → Option Nat) (J : zI) (x : Nat), ((x = 0 ∧ F = F0 ∧ ∀ q, q < p → wlR R q = false → insM b q = true → ∀ v, v < 4 → bjC b F q v) ∨ (x = 1 ∧ muF F < muF F0)) → bjK b (wlR R) a M F → (∀ q, q ≠ 560 + 1 + w → J q = I q) → (∀ q, q < 64 → J (560 + 1 + w) q = er (F q)) → zJ l Xi mX13_widens d 0 0 10 [some (.ref 74), some (.int (nI w)), some (.int (nI x)), some (.int (nI p)), none, none] [] (J, g) post := by
        intro k
        induction k with
        | zero =>
          intro p hp F J x hx hF hJ hJ7
          obtain rfl : p = 64 := by omega
          refine zJ_iload_n dX13_widens_10 rfl ?_
          refine zJ_bipush (v := nI 64) dX13_widens_11 rfl ?_
          refine zJ_icmp_ge 123 dX13_widens_13 (by decide) (fun _ => ?_) (fun c13 => absurd (nI_le (by omega) (by omega)) c13)
          refine zJ_goto 2 dX13_widens_123 (by decide) ?_
          rcases hx with ⟨rfl, rfl, hcl⟩ | ⟨rfl, hlt⟩
          · have hD : ∀ q, q < 64 → F q = clJ a (wlR R) (adM b) q := fun q hq => FPj_one (bj_end hb hF hcl) clJ_FP hq
            refine zJ_iload_n dX13_widens_2 rfl ?_
            refine zJ_if_eq 126 dX13_widens_3 (by decide) (fun _ => ?_) (fun c3 => absurd rfl c3)
            refine zJ_vret rfl dX13_widens_126 ?_
            rw [hpost]
            exact ⟨rfl, J, rfl, hJ, fun q hq => by rw [hJ7 q hq, hD q hq]⟩
          · exact zJ_back (zle_r (zle_r (zle_r (zle_n (zle_n (zle_n zle_0)))))) rfl (IH (muF F) (by omega) F J rfl hF hJ hJ7)
        | succ k ih =>
          intro p hp F J x hx hF hJ hJ7
          have hBJ : rB J b := rB_of hB (by rw [hJ 74 (by omega)]) (fun q hq => hJ q (by omega))
          have hRJ : rRow J 533 b R := rRow_of hR (hJ 533 (by omega))
          have skip : (wlR R p = false → insM b p = true → False) → zJ l Xi mX13_widens d 0 0 10 [some (.ref 74), some (.int (nI w)), some (.int (nI x)), some (.int (nI (p + 1))), none, none] [] (J, g) post := fun hno => by
            refine ih (p + 1) (by omega) F J x ?_ hF hJ hJ7
            rcases hx with ⟨h1, h2, h3⟩ | h
            · refine Or.inl ⟨h1, h2, fun q hq t2 t3 => ?_⟩
              by_cases z : q = p
              · subst z; exact absurd (hno t2 t3) id
              · exact h3 q (by omega) t2 t3
            · exact Or.inr h
          refine zJ_iload_n dX13_widens_10 rfl ?_
          refine zJ_bipush (v := nI 64) dX13_widens_11 rfl ?_
          refine zJ_icmp_ge 123 dX13_widens_13 (by decide) (fun c13 => absurd c13 (nI_ge (by omega) (by omega))) (fun _ => ?_)
          refine zJ_aload_n dX13_widens_16 rfl ?_
          refine zJ_iload_n dX13_widens_17 rfl ?_
          refine zP_callVi [_] _ lv_X13_199 (k_isHere (d := d - 1) hl (by omega) hs hBJ (by omega)) (zSt_ob hs 74 13 rfl) rfl (by omega) (Nat.le_of_ble_eq_true rfl) rfl dX13_widens_18 ?_
          refine zJ_if_eq 117 dX13_widens_21 (by decide) (fun c21 => ?_) (fun c21 => ?_)
          · replace c21 := zb0.mp c21
            refine zJ_iinc1 dX13_widens_117 rfl (by decide) ?_
            refine zJ_goto 10 dX13_widens_120 (by decide) ?_
            exact zJ_back (zle_r (zle_r (zle_r (zle_r (zle_n (zle_n zle_0)))))) rfl (skip (fun _ h => by rw [h] at c21; cases c21))
          · replace c21 := zb1.mp c21
            refine zJ_aload_n dX13_widens_24 rfl ?_
            refine zP_getr lf_X13_70 (zSt_ob hs 74 13 rfl) rfl (zSt_rf hs 74 30 533 rfl) dX13_widens_25 ?_
            refine zJ_sipush (v := nI 448) dX13_widens_28 rfl ?_
            refine zJ_iload_n dX13_widens_31 rfl ?_
            refine zJ_iadd dX13_widens_32 ?_
            rw [nI_add]
            refine zP_iald (zSt_ar hs 533 519 rfl) (by first | assumption | with_reducible exact vp_in_nI (by omega) (by omega) | (simp (disch := omega) only [nI_add, pk_mul, pk_sub, pk_div, pk_rem, nI_clamp]; with_reducible exact vp_in_nI (by omega) (by omega))) dX13_widens_33 ?_
            rw [nI_clamp (by omega), hRJ.1 _ (by omega)]
            refine zJ_iconst (v := nI 1) dX13_widens_34 rfl ?_
            refine zJ_icmp_ne 41 dX13_widens_35 (by decide) (fun c35 => ?_) (fun c35 => ?_)
            · skip
              refine zJ_iconst (v := nI 0) dX13_widens_41 rfl ?_
              refine zJ_istore dX13_widens_42 (Nat.le_of_ble_eq_true rfl) (by decide) ?_
              have hw0 : wlR R p = false := by
                cases z : wlR R p with
                | false => rfl
                | true => exact absurd ((hwl p (by omega)).mp z) c35
              have dloop : ∀ k v, v + k = 4 → ∀ (F : Nat → Option Nat) (J : zI) (x : Nat), ((x = 0 ∧ F = F0 ∧ (∀ q, q < p → wlR R q = false → insM b q = true → ∀ v, v < 4 → bjC b F q v) ∧ ∀ v', v' < v → bjC b F p v') ∨ (x = 1 ∧ muF F < muF F0)) → bjK b (wlR R) a M F → (∀ q, q ≠ 560 + 1 + w → J q = I q) → (∀ q, q < 64 → J (560 + 1 + w) q = er (F q)) → zJ l Xi mX13_widens d 0 0 44 [some (.ref 74), some (.int (nI w)), some (.int (nI x)), some (.int (nI p)), some (.int (nI v)), none] [] (J, g) post := by
                intro k
                induction k with
                | zero =>
                  intro v hv F J x hx hF hJ hJ7
                  obtain rfl : v = 4 := by omega
                  refine zJ_iload dX13_widens_44 rfl ?_
                  refine zJ_iconst (v := nI 4) dX13_widens_46 rfl ?_
                  refine zJ_icmp_ge 117 dX13_widens_47 (by decide) (fun _ => ?_) (fun c47 => absurd (nI_le (by omega) (by omega)) c47)
                  refine zJ_iinc1 dX13_widens_117 rfl (by decide) ?_
                  refine zJ_goto 10 dX13_widens_120 (by decide) ?_
                  refine zJ_back (zle_r (zle_r (zle_r (zle_r (zle_n (zle_n zle_0)))))) rfl (ih (p + 1) (by omega) F J x ?_ hF hJ hJ7)
                  rcases hx with ⟨h1, h2, h3, h4⟩ | h
                  · refine Or.inl ⟨h1, h2, fun q hq t2 t3 => ?_⟩
                    by_cases z : q = p
                    · subst z; exact h4
                    · exact h3 q (by omega) t2 t3
                  · exact Or.inr h
                | succ k ihd =>
                  intro v hv F J x hx hF hJ hJ7
                  have hBJ : rB J b := rB_of hB (by rw [hJ 74 (by omega)]) (fun q hq => hJ q (by omega))
                  have hp64 : p < 64 := by omega
                  have hbnd : ∀ q v, q < 64 → F q = some v → v ≤ M + 64 := fun q v hq h => by have := hF.2.2.1 q v hq h; have h6 : cB (fun q => (F q).isSome) 64 ≤ 64 := cB_le; omega
                  have hgd : ∀ q, q < 64 → (F q).getD 99998 ≤ 99998 := fun q hq => by
                    cases z : F q with
                    | none => exact Nat.le_refl _
                    | some u => have := hbnd q u hq z; show u ≤ 99998; omega
                  have stay : bjC b F p v → zJ l Xi mX13_widens d 0 0 44 [some (.ref 74), some (.int (nI w)), some (.int (nI x)), some (.int (nI p)), some (.int (nI (v + 1))), none] [] (J, g) post := fun hv2 => by
                    refine ihd (v + 1) (by omega) F J x ?_ hF hJ hJ7
                    rcases hx with ⟨h1, h2, h3, h4⟩ | h
                    · refine Or.inl ⟨h1, h2, h3, fun v' hv' => ?_⟩
                      by_cases z : v' = v
                      · subst z; exact hv2
                      · exact h4 v' (by omega)
                    · exact Or.inr h
                  have go : ∀ e y, nbr b p v = some e → e < 64 → F e = some y → (∀ u, F p = some u → y + 1 < u) → zJ l Xi mX13_widens d 0 0 44 [some (.ref 74), some (.int (nI w)), some (.int (nI 1)), some (.int (nI p)), some (.int (nI (v + 1))), none] [] (zup J (560 + 1 + w) p (nI (y + 1 + 1)), g) post := fun e y he he64 hy hlt => by
                    have had : adM b e p := ⟨(v + 2) % 4, by omega, nbr_sym hb c21 (by omega) he⟩
                    obtain ⟨k1, k2⟩ := bj_step hM hp64 he64 hw0 c21 had hy hlt hF
                    refine ihd (v + 1) (by omega) _ _ 1 (Or.inr ⟨rfl, ?_⟩) k1 (fun q hq => (zup_row hq).trans (hJ q hq)) (fun q hq => ?_)
                    · rcases hx with ⟨h1, h2, h3, h4⟩ | h
                      · rw [← h2]; exact k2
                      · omega
                    · rw [zup_same]
                      by_cases z : q = p
                      · subst z; rw [upd_at]; simp [setO, er]
                      · rw [upd_ne z, hJ7 q hq]; simp [setO, z]
                  refine zJ_iload dX13_widens_44 rfl ?_
                  refine zJ_iconst (v := nI 4) dX13_widens_46 rfl ?_
                  refine zJ_icmp_ge 117 dX13_widens_47 (by decide) (fun c47 => absurd c47 (nI_ge (by omega) (by omega))) (fun _ => ?_)
                  refine zJ_aload_n dX13_widens_50 rfl ?_
                  refine zJ_iload_n dX13_widens_51 rfl ?_
                  refine zJ_iload dX13_widens_52 rfl ?_
                  refine zP_callVi [_, _] _ lv_X13_309 (k_neighbour (d := d - 1) hl (by omega) hs hBJ hp64 c21 (by omega)) (zSt_ob hs 74 13 rfl) rfl (by omega) (Nat.le_of_ble_eq_true rfl) rfl dX13_widens_54 ?_
                  refine zJ_istore dX13_widens_57 (Nat.le_of_ble_eq_true rfl) (by decide) ?_
                  refine zJ_iload dX13_widens_59 rfl ?_
                  refine zJ_iconst (v := -1) dX13_widens_61 rfl ?_
                  refine zJ_icmp_eq 111 dX13_widens_62 (by decide) (fun c62 => ?_) (fun c62 => ?_)
                  · skip
                    refine zJ_iinc1 dX13_widens_111 rfl (by decide) ?_
                    refine zJ_goto 44 dX13_widens_114 (by decide) ?_
                    refine zJ_back (zle_r (zle_r (zle_r (zle_r (zle_r (zle_n zle_0)))))) rfl (stay (fun e x h => ?_))
                    rw [h] at c62
                    exact absurd c62 (nI_ne1 (by have := nbr_lt hb hp64 h; omega))
                  · skip
                    obtain ⟨e, he⟩ : ∃ e, nbr b p v = some e := by cases z : nbr b p v with | none => exact absurd (by rw [z]; rfl) c62 | some e => exact ⟨e, rfl⟩
                    have he64 := nbr_lt hb hp64 he
                    simp only [he, oI]
                    refine zJ_aload_n dX13_widens_65 rfl ?_
                    refine zP_getr lf_X13_95 (zSt_ob hs 74 13 rfl) rfl (zSt_rf hs 74 45 560 rfl) dX13_widens_66 ?_
                    refine zJ_iload_n dX13_widens_69 rfl ?_
                    refine zP_rowK (k := w) (zSt_g560 hs) (by omega) (by decide) dX13_widens_70 ?_
                    refine zJ_iload dX13_widens_71 rfl ?_
                    refine zP_iald (zGr_ar (zSt_g560 hs) (i := w) (by omega)) (by first | assumption | with_reducible exact vp_in_nI (by omega) (by omega) | (simp (disch := omega) only [nI_add, pk_mul, pk_sub, pk_div, pk_rem, nI_clamp]; with_reducible exact vp_in_nI (by omega) (by omega))) dX13_widens_73 ?_
                    rw [nI_clamp (by omega), hJ7 e he64]
                    refine zJ_iconst (v := nI 1) dX13_widens_74 rfl ?_
                    refine zJ_iadd dX13_widens_75 ?_
                    rw [show er (F e) + nI 1 = nI ((F e).getD 99998 + 1 + 1) from nI_add _ _]
                    refine zJ_aload_n dX13_widens_76 rfl ?_
                    refine zP_getr lf_X13_95 (zSt_ob hs 74 13 rfl) rfl (zSt_rf hs 74 45 560 rfl) dX13_widens_77 ?_
                    refine zJ_iload_n dX13_widens_80 rfl ?_
                    refine zP_rowK (k := w) (zSt_g560 hs) (by omega) (by decide) dX13_widens_81 ?_
                    refine zJ_iload_n dX13_widens_82 rfl ?_
                    refine zP_iald (zGr_ar (zSt_g560 hs) (i := w) (by omega)) (by first | assumption | with_reducible exact vp_in_nI (by omega) (by omega) | (simp (disch := omega) only [nI_add, pk_mul, pk_sub, pk_div, pk_rem, nI_clamp]; with_reducible exact vp_in_nI (by omega) (by omega))) dX13_widens_83 ?_
                    rw [nI_clamp (by omega), hJ7 p hp64]
                    refine zJ_icmp_lt 90 dX13_widens_84 (by decide) (fun c84 => ?_) (fun c84 => ?_)
                    · skip
                      refine zJ_aload_n dX13_widens_90 rfl ?_
                      refine zP_getr lf_X13_95 (zSt_ob hs 74 13 rfl) rfl (zSt_rf hs 74 45 560 rfl) dX13_widens_91 ?_
                      refine zJ_iload_n dX13_widens_94 rfl ?_
                      refine zP_rowK (k := w) (zSt_g560 hs) (by omega) (by decide) dX13_widens_95 ?_
                      refine zJ_iload_n dX13_widens_96 rfl ?_
                      refine zJ_aload_n dX13_widens_97 rfl ?_
                      refine zP_getr lf_X13_95 (zSt_ob hs 74 13 rfl) rfl (zSt_rf hs 74 45 560 rfl) dX13_widens_98 ?_
                      refine zJ_iload_n dX13_widens_101 rfl ?_
                      refine zP_rowK (k := w) (zSt_g560 hs) (by omega) (by decide) dX13_widens_102 ?_
                      refine zJ_iload dX13_widens_103 rfl ?_
                      refine zP_iald (zGr_ar (zSt_g560 hs) (i := w) (by omega)) (by first | assumption | with_reducible exact vp_in_nI (by omega) (by omega) | (simp (disch := omega) only [nI_add, pk_mul, pk_sub, pk_div, pk_rem, nI_clamp]; with_reducible exact vp_in_nI (by omega) (by omega))) dX13_widens_105 ?_
                      rw [nI_clamp (by omega), hJ7 e he64]
                      refine zJ_iconst (v := nI 1) dX13_widens_106 rfl ?_
                      refine zJ_iadd dX13_widens_107 ?_
                      rw [show er (F e) + nI 1 = nI ((F e).getD 99998 + 1 + 1) from nI_add _ _]
                      refine zP_iast (zGr_ar (zSt_g560 hs) (i := w) (by omega)) (by first | assumption | with_reducible exact vp_in_nI (by omega) (by omega) | (simp (disch := omega) only [nI_add, pk_mul, pk_sub, pk_div, pk_rem, nI_clamp]; with_reducible exact vp_in_nI (by omega) (by omega))) dX13_widens_108 ?_
                      rw [nI_clamp (by omega)]
                      refine zJ_iconst (v := nI 1) dX13_widens_109 rfl ?_
                      refine zJ_istore_m 2 dX13_widens_110 rfl (Nat.le_of_ble_eq_true rfl) (by decide) ?_
                      refine zJ_iinc1 dX13_widens_111 rfl (by decide) ?_
                      refine zJ_goto 44 dX13_widens_114 (by decide) ?_
                      have g1 := hgd e he64
                      have g2 := hgd p hp64
                      have hlt : (F e).getD 99998 + 1 + 1 < (F p).getD 99998 + 1 := Nat.lt_of_not_le (fun z => absurd c84 (nI_nlt z (by omega)))
                      obtain ⟨y, hy⟩ : ∃ y, F e = some y := by cases z : F e with | none => (rw [z] at hlt; exact absurd (show 99998 + 1 + 1 < (F p).getD 99998 + 1 from hlt) (by omega)) | some e => exact ⟨e, rfl⟩
                      rw [hy] at hlt ⊢
                      refine zJ_back (zle_r (zle_r (zle_r (zle_r (zle_r (zle_n zle_0)))))) rfl (go e y he he64 hy (fun u h => ?_))
                      rw [h] at hlt
                      have hlt2 : y + 1 + 1 < u + 1 := hlt
                      omega
                    · skip
                      refine zJ_goto 111 dX13_widens_87 (by decide) ?_
                      refine zJ_iinc1 dX13_widens_111 rfl (by decide) ?_
                      refine zJ_goto 44 dX13_widens_114 (by decide) ?_
                      have g1 := hgd e he64
                      have g2 := hgd p hp64
                      have hge : (F p).getD 99998 + 1 ≤ (F e).getD 99998 + 1 + 1 := Nat.le_of_not_lt (fun z => c84 (nI_lt z (by omega)))
                      refine zJ_back (zle_r (zle_r (zle_r (zle_r (zle_r (zle_n zle_0)))))) rfl (stay (fun e' x h h2 => ?_))
                      rw [he] at h; cases h
                      rw [h2] at hge
                      have hge2 : (F p).getD 99998 + 1 ≤ x + 1 + 1 := hge
                      have hxb := hbnd e x he64 h2
                      cases z : F p with
                      | none => rw [z] at hge2; exact absurd (show 99998 + 1 ≤ x + 1 + 1 from hge2) (by omega)
                      | some u => rw [z] at hge2; exact ⟨u, rfl, by have : u + 1 ≤ x + 1 + 1 := hge2; omega⟩
              refine zJ_back (zle_r (zle_r (zle_r (zle_r (zle_r (zle_n zle_0)))))) rfl (dloop 4 0 (by omega) F J x ?_ hF hJ hJ7)
              rcases hx with ⟨h1, h2, h3⟩ | h
              · exact Or.inl ⟨h1, h2, h3, fun v' hv' => absurd hv' (Nat.not_lt_zero _)⟩
              · exact Or.inr h
            · skip
              refine zJ_goto 117 dX13_widens_38 (by decide) ?_
              refine zJ_iinc1 dX13_widens_117 rfl (by decide) ?_
              refine zJ_goto 10 dX13_widens_120 (by decide) ?_
              exact zJ_back (zle_r (zle_r (zle_r (zle_r (zle_n (zle_n zle_0)))))) rfl (skip (fun h _ => by rw [(hwl p (by omega)).mpr c35] at h; cases h))
      refine zJ_iload_n dX13_widens_2 rfl ?_
      refine zJ_if_eq 126 dX13_widens_3 (by decide) (fun c3 => absurd c3 (by decide)) (fun _ => ?_)
      refine zJ_iconst (v := nI 0) dX13_widens_6 rfl ?_
      refine zJ_istore_m 2 dX13_widens_7 rfl (Nat.le_of_ble_eq_true rfl) (by decide) ?_
      refine zJ_iconst (v := nI 0) dX13_widens_8 rfl ?_
      refine zJ_istore_m 3 dX13_widens_9 rfl (Nat.le_of_ble_eq_true rfl) (by decide) ?_
      exact zJ_back (zle_r (zle_r (zle_r (zle_r (zle_n (zle_n zle_0)))))) rfl (ploop 64 0 (by omega) F0 J0 0 (Or.inl ⟨rfl, rfl, fun q hq => absurd hq (Nat.not_lt_zero _)⟩) hF0 hJ0 hJ07)
  refine zJ_iconst (v := nI 1) dX13_widens_0 rfl ?_
  refine zJ_istore_m 2 dX13_widens_1 rfl (Nat.le_of_ble_eq_true rfl) (by decide) ?_
  exact zJ_back (zle_r (zle_r (zle_r (zle_n (zle_n (zle_n zle_0)))))) rfl (pass _ a I rfl ⟨fun p v hp hv => ⟨v, hv, Nat.le_refl _⟩, fun p v hp hv => Or.inl hv, fun p v hp hv => Nat.le_trans (haM p v hp hv) (Nat.le_add_right _ _), hin⟩ (fun _ _ => rfl) ha)
end ZRefAU
