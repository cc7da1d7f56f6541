/-! ===== the reference: spreads ===== -/
section ZRefD
variable {l : Launch} {Xi : zXi} {d : Nat} {I : zI} {g : zG}
def rF (I J : zI) : Prop := ∀ a, a ≠ 450 → a ≠ 451 → a ≠ 557 → a ≠ 558 → J a = I a
theorem rF_rfl : rF I I := fun _ _ _ _ _ => rfl
theorem rF_trans {J K : zI} (h : rF I J) (h2 : rF J K) : rF I K := fun a p q r s => (h2 a p q r s).trans (h a p q r s)
theorem rB_rF {J : zI} {b : zWo} (h : rB I b) (hf : rF I J) : rB J b := rB_of h (by rw [hf 74 (by decide) (by decide) (by decide) (by decide)]) (fun a ha => hf a (by omega) (by omega) (by omega) (by omega))
theorem oI_ne {o : Option Nat} (h : ∀ v, o = some v → v < 2 ^ 31) : oI o = -1 ↔ o = none := by
  cases o with
  | none => exact ⟨fun _ => rfl, fun _ => rfl⟩
  | some v => exact ⟨fun e => absurd e (nI_ne1 (h v rfl)), fun e => by cases e⟩
def sprQ (I : zI) (b : zWo) (R : rwT) (n : Nat) (J : zI) : Prop := rF I J ∧ (∀ p, p < 64 → J 557 p = oI (DM b R n p)) ∧ (∀ p, p < 64 → insM b p = true → J 558 p = nI (cstM b R n p)) ∧ ∀ p v, p < 64 → DM b R n p = some v → v ≤ 63936
set_option maxHeartbeats 2000000 in
theorem m_spreads (hl : l.stackTraces = false) (hd : 6 ≤ d) (hs : zSt g) {b : zWo} {R : rwT} (hB : rB I b) {a n : Nat} (ha : zAr g a 519) (haa : a = 533 ∨ a = 534 ∨ a = 535) (hR : rRow I a b R) (hok : okR b R) (hn : n < bN b) : zEv l Xi mX13_spreads d [.ref 74, .ref a, .int (nI n)] I g (sprQ I b R n) := by
  refine zC_of hl rfl rfl rfl (Nat.le_of_ble_eq_true rfl) (zav_r (zSt_ob hs 74 13 rfl).1 (zav_r ha.1 (zav_i zav_0))) ?_
  have hb := hB.1
  have hN6 := hb.2.2.2.2.1
  have hTi : ∀ p, p < 64 → tin R n p = true → insM b p = true := fun p hp h => by obtain ⟨dep, hdp⟩ := hok.1 n (by omega); exact (hdp p hp h).1
  obtain ⟨c, hc⟩ : ∃ c, c = cstM b R n := ⟨_, rfl⟩
  have hcin : ∀ p, 1 ≤ c p ∧ c p ≤ 999 := fun p => by rw [hc]; exact ⟨cst_in.1, cst_in.2.1⟩
  obtain ⟨post, hpost⟩ : ∃ post : zR → zH → Prop, post = (fun r' h' => r' = .inl none ∧ ∃ I', h' = (I', g) ∧ sprQ I b R n I') := ⟨_, rfl⟩
  rw [← hpost]
  have after : ∀ (K : zI), rF I K → (∀ q, q < 64 → K 557 q = if tin R n q then 0 else -1) → (∀ q, q < 64 → insM b q = true → K 558 q = nI (c q)) → zJ l Xi mX13_spreads d 0 0 59 [some (.ref 74), some (.ref a), some (.int (nI n)), some (.int (nI 64)), none, none, none] [] (K, g) post := by
    intro K hK hK7 hK8
    have hBK := rB_rF hB hK
    have hRK : rRow K a b R := rRow_of hR (hK a (by omega) (by omega) (by omega) (by omega))
    have hwl : ∀ p, p < 64 → (wlR R p = true ↔ R (448 + p) = nI 1) := fun p hp => by
      unfold wlR
      rcases hok.2.2.1 p hp with e | e <;> rw [e] <;> decide
    have pass : ∀ (m : Nat) (F : Nat → Option Nat) (J : zI), muF F = m → bfK b (tin R n) (wlR R) c F → (∀ q, q ≠ 557 → J q = K q) → (∀ q, q < 64 → J 557 q = oI (F q)) → zJ l Xi mX13_spreads d 0 0 61 [some (.ref 74), some (.ref a), some (.int (nI n)), some (.int (nI 1)), none, none, none] [] (J, g) post := by
      intro m
      induction m using Nat.strongRecOn with
      | ind m IH =>
        intro F0 J0 hm0 hF0 hJ0 hJ07
        have ploop : ∀ k p, p + k = 64 → ∀ (F : Nat → Option Nat) (J : zI) (x : Nat), ((x = 0 ∧ F = F0 ∧ ∀ q, q < p → tin R n q = false → wlR R q = false → insM b q = true → ∀ v, v < 4 → bfC b c F q v) ∨ (x = 1 ∧ muF F < muF F0)) → bfK b (tin R n) (wlR R) c F → (∀ q, q ≠ 557 → J q = K q) → (∀ q, q < 64 → J 557 q = oI (F q)) → zJ l Xi mX13_spreads d 0 0 70 [some (.ref 74), some (.ref a), some (.int (nI n)), some (.int (nI x)), some (.int (nI p)), none, none] [] (J, g) post := by
          intro k
          induction k with
          | zero =>
            intro p hp F J x hx hF hJ hJ7
            obtain rfl : p = 64 := by omega
            refine zJ_iload dX13_spreads_70 rfl ?_
            refine zJ_bipush (v := nI 64) dX13_spreads_72 rfl ?_
            refine zJ_icmp_ge 222 dX13_spreads_74 (by decide) (fun _ => ?_) (fun c74 => absurd (nI_le (by omega) (by omega)) c74)
            refine zJ_goto 61 dX13_spreads_222 (by decide) ?_
            rcases hx with ⟨rfl, rfl, hcl⟩ | ⟨rfl, hlt⟩
            · have hD : ∀ q, q < 64 → F q = DM b R n q := fun q hq => FPd_one (fun p _ => (hcin p).1) (bf_end hb hF hTi hcl) (by rw [hc]; exact DM_FP) hq
              refine zJ_iload_n dX13_spreads_61 rfl ?_
              refine zJ_if_eq 225 dX13_spreads_62 (by decide) (fun _ => ?_) (fun c62 => absurd rfl c62)
              refine zJ_vret rfl dX13_spreads_225 ?_
              rw [hpost]
              refine ⟨rfl, J, rfl, fun q k1 k2 k3 k4 => (hJ q k3).trans (hK q k1 k2 k3 k4), fun q hq => by rw [hJ7 q hq, hD q hq], fun q hq hi => by rw [hJ 558 (by decide), hK8 q hq hi, hc], fun q v hq h => by rw [← hD q hq] at h; have := hF.2.2.2 q v hq h; have h6 : cB (fun q => (F q).isSome) 64 ≤ 64 := cB_le; omega⟩
            · exact zJ_back (zle_r (zle_r (zle_r (zle_r (zle_n (zle_n (zle_n zle_0))))))) rfl (IH (muF F) (by omega) F J rfl hF hJ hJ7)
          | succ k ih =>
            intro p hp F J x hx hF hJ hJ7
            have hBJ : rB J b := rB_of hBK (by rw [hJ 74 (by decide)]) (fun q hq => hJ q (by omega))
            have hRJ : rRow J a b R := rRow_of hRK (hJ a (by omega))
            have skip : (tin R n p = false → wlR R p = false → insM b p = true → False) → zJ l Xi mX13_spreads d 0 0 70 [some (.ref 74), some (.ref a), some (.int (nI n)), some (.int (nI x)), some (.int (nI (p + 1))), none, none] [] (J, g) post := fun hno => by
              refine ih (p + 1) (by omega) F J x ?_ hF hJ hJ7
              rcases hx with ⟨h1, h2, h3⟩ | h
              · refine Or.inl ⟨h1, h2, fun q hq t1 t2 t3 => ?_⟩
                by_cases z : q = p
                · subst z; exact absurd (hno t1 t2 t3) id
                · exact h3 q (by omega) t1 t2 t3
              · exact Or.inr h
            have hta : tin (J a) n p = tin R n p := r_tin hRJ (by omega) (by omega)
            refine zJ_iload dX13_spreads_70 rfl ?_
            refine zJ_bipush (v := nI 64) dX13_spreads_72 rfl ?_
            refine zJ_icmp_ge 222 dX13_spreads_74 (by decide) (fun c74 => absurd c74 (nI_ge (by omega) (by omega))) (fun _ => ?_)
            refine zJ_aload_n dX13_spreads_77 rfl ?_
            refine zJ_iload dX13_spreads_78 rfl ?_
            refine zP_callVi [_] _ lv_X13_199 (k_isHere (d := d - 1) hl (by omega) hs hBJ (by omega)) (zSt_ob hs 74 13 rfl) rfl (by omega) (Nat.le_of_ble_eq_true rfl) rfl dX13_spreads_80 ?_
            refine zJ_if_eq 216 dX13_spreads_83 (by decide) (fun c83 => ?_) (fun c83 => ?_)
            · replace c83 := zb0.mp c83
              refine zJ_iinc1 dX13_spreads_216 rfl (by decide) ?_
              refine zJ_goto 70 dX13_spreads_219 (by decide) ?_
              exact zJ_back (zle_r (zle_r (zle_r (zle_r (zle_r (zle_n (zle_n zle_0))))))) rfl (skip (fun _ _ h => by rw [h] at c83; cases c83))
            · replace c83 := zb1.mp c83
              refine zJ_aload_n dX13_spreads_86 rfl ?_
              refine zJ_sipush (v := nI 448) dX13_spreads_87 rfl ?_
              refine zJ_iload dX13_spreads_90 rfl ?_
              refine zJ_iadd dX13_spreads_92 ?_
              rw [nI_add]
              refine zP_iald ha (by first | assumption | with_reducible exact vp_in_nI (by omega) (by omega) | (simp (disch := omega) only [nI_add, pk_mul, pk_sub, pk_div, pk_rem, nI_clamp]; with_reducible exact vp_in_nI (by omega) (by omega))) dX13_spreads_93 ?_
              rw [nI_clamp (by omega), hRJ.1 _ (by omega)]
              refine zJ_iconst (v := nI 1) dX13_spreads_94 rfl ?_
              refine zJ_icmp_eq 216 dX13_spreads_95 (by decide) (fun c95 => ?_) (fun c95 => ?_)
              · skip
                refine zJ_iinc1 dX13_spreads_216 rfl (by decide) ?_
                refine zJ_goto 70 dX13_spreads_219 (by decide) ?_
                exact zJ_back (zle_r (zle_r (zle_r (zle_r (zle_r (zle_n (zle_n zle_0))))))) rfl (skip (fun _ h _ => by rw [(hwl p (by omega)).mpr c95] at h; cases h))
              · skip
                refine zJ_aload_n dX13_spreads_98 rfl ?_
                refine zJ_iload_n dX13_spreads_99 rfl ?_
                refine zJ_iload dX13_spreads_100 rfl ?_
                refine zP_callSi [_, _, _] _ ls_X13_287 (k_isIn (d := d - 1) hl (by omega) ha (by omega) (by omega)) rfl (by omega) (Nat.le_of_ble_eq_true rfl) rfl dX13_spreads_102 ?_
                refine zJ_if_eq 111 dX13_spreads_105 (by decide) (fun c105 => ?_) (fun c105 => ?_)
                · replace c105 := zb0.mp c105
                  refine zJ_iconst (v := nI 0) dX13_spreads_111 rfl ?_
                  refine zJ_istore dX13_spreads_112 (Nat.le_of_ble_eq_true rfl) (by decide) ?_
                  rw [hta] at c105
                  have hw : wlR R p = false := by
                    cases z : wlR R p with
                    | false => rfl
                    | true => exact absurd ((hwl p (by omega)).mp z) c95
                  have dloop : ∀ k v, v + k = 4 → ∀ (F : Nat → Option Nat) (J : zI) (x : Nat), ((x = 0 ∧ F = F0 ∧ (∀ q, q < p → tin R n q = false → wlR R q = false → insM b q = true → ∀ v, v < 4 → bfC b c F q v) ∧ ∀ v', v' < v → bfC b c F p v') ∨ (x = 1 ∧ muF F < muF F0)) → bfK b (tin R n) (wlR R) c F → (∀ q, q ≠ 557 → J q = K q) → (∀ q, q < 64 → J 557 q = oI (F q)) → zJ l Xi mX13_spreads d 0 0 114 [some (.ref 74), some (.ref a), some (.int (nI n)), some (.int (nI x)), some (.int (nI p)), some (.int (nI v)), none] [] (J, g) post := by
                    intro k
                    induction k with
                    | zero =>
                      intro v hv F J x hx hF hJ hJ7
                      obtain rfl : v = 4 := by omega
                      refine zJ_iload dX13_spreads_114 rfl ?_
                      refine zJ_iconst (v := nI 4) dX13_spreads_116 rfl ?_
                      refine zJ_icmp_ge 216 dX13_spreads_117 (by decide) (fun _ => ?_) (fun c117 => absurd (nI_le (by omega) (by omega)) c117)
                      refine zJ_iinc1 dX13_spreads_216 rfl (by decide) ?_
                      refine zJ_goto 70 dX13_spreads_219 (by decide) ?_
                      refine zJ_back (zle_r (zle_r (zle_r (zle_r (zle_r (zle_n (zle_n zle_0))))))) rfl (ih (p + 1) (by omega) F J x ?_ hF hJ hJ7)
                      rcases hx with ⟨h1, h2, h3, h4⟩ | h
                      · refine Or.inl ⟨h1, h2, fun q hq t1 t2 t3 => ?_⟩
                        by_cases z : q = p
                        · subst z; exact h4
                        · exact h3 q (by omega) t1 t2 t3
                      · exact Or.inr h
                    | succ k ihd =>
                      intro v hv F J x hx hF hJ hJ7
                      have hBJ : rB J b := rB_of hBK (by rw [hJ 74 (by decide)]) (fun q hq => hJ q (by omega))
                      have hp64 : p < 64 := by omega
                      have hbnd : ∀ q v, q < 64 → F q = some v → v ≤ 63936 := fun q v hq h => by have := hF.2.2.2 q v hq h; have h6 : cB (fun q => (F q).isSome) 64 ≤ 64 := cB_le; omega
                      have hdp : J 558 p = nI (c p) := by rw [hJ 558 (by decide)]; exact hK8 p hp64 c83
                      have hcp := hcin p
                      have stay : bfC b c F p v → zJ l Xi mX13_spreads d 0 0 114 [some (.ref 74), some (.ref a), some (.int (nI n)), some (.int (nI x)), some (.int (nI p)), some (.int (nI (v + 1))), none] [] (J, g) post := fun hv2 => by
                        refine ihd (v + 1) (by omega) F J x ?_ hF hJ hJ7
                        rcases hx with ⟨h1, h2, h3, h4⟩ | h
                        · refine Or.inl ⟨h1, h2, h3, fun v' hv' => ?_⟩
                          by_cases z : v' = v
                          · subst z; exact hv2
                          · exact h4 v' (by omega)
                        · exact Or.inr h
                      have go : ∀ e y, nbr b p v = some e → e < 64 → F e = some y → (∀ u, F p = some u → y + c p < u) → zJ l Xi mX13_spreads d 0 0 114 [some (.ref 74), some (.ref a), some (.int (nI n)), some (.int (nI 1)), some (.int (nI p)), some (.int (nI (v + 1))), none] [] (zup J 557 p (nI (y + c p)), g) post := fun e y he he64 hy hlt => by
                        have had : adM b e p := ⟨(v + 2) % 4, by omega, nbr_sym hb c83 (by omega) he⟩
                        obtain ⟨k1, k2, k3⟩ := bf_step hp64 he64 hcp.1 hcp.2 c105 hw c83 had hy hlt hF
                        refine ihd (v + 1) (by omega) _ _ 1 (Or.inr ⟨rfl, ?_⟩) k1 (fun q hq => (zup_row hq).trans (hJ q hq)) (fun q hq => ?_)
                        · rcases hx with ⟨h1, h2, h3, h4⟩ | h
                          · rw [← h2]; exact k2
                          · omega
                        · rw [zup_same]
                          by_cases z : q = p
                          · subst z; rw [upd_at]; simp [setO, oI]
                          · rw [upd_ne z, hJ7 q hq]; simp [setO, z]
                      refine zJ_iload dX13_spreads_114 rfl ?_
                      refine zJ_iconst (v := nI 4) dX13_spreads_116 rfl ?_
                      refine zJ_icmp_ge 216 dX13_spreads_117 (by decide) (fun c117 => absurd c117 (nI_ge (by omega) (by omega))) (fun _ => ?_)
                      refine zJ_aload_n dX13_spreads_120 rfl ?_
                      refine zJ_iload dX13_spreads_121 rfl ?_
                      refine zJ_iload dX13_spreads_123 rfl ?_
                      refine zP_callVi [_, _] _ lv_X13_309 (k_neighbour (d := d - 1) hl (by omega) hs hBJ hp64 c83 (by omega)) (zSt_ob hs 74 13 rfl) rfl (by omega) (Nat.le_of_ble_eq_true rfl) rfl dX13_spreads_125 ?_
                      refine zJ_istore dX13_spreads_128 (Nat.le_of_ble_eq_true rfl) (by decide) ?_
                      refine zJ_iload dX13_spreads_130 rfl ?_
                      refine zJ_iconst (v := -1) dX13_spreads_132 rfl ?_
                      refine zJ_icmp_eq 210 dX13_spreads_133 (by decide) (fun c133 => ?_) (fun c133 => ?_)
                      · skip
                        refine zJ_iinc1 dX13_spreads_210 rfl (by decide) ?_
                        refine zJ_goto 114 dX13_spreads_213 (by decide) ?_
                        refine zJ_back (zle_r (zle_r (zle_r (zle_r (zle_r (zle_r (zle_n zle_0))))))) rfl (stay (fun e x h => ?_))
                        rw [h] at c133
                        exact absurd c133 (nI_ne1 (by have := nbr_lt hb hp64 h; omega))
                      · skip
                        obtain ⟨e, he⟩ : ∃ e, nbr b p v = some e := by cases z : nbr b p v with | none => exact absurd (by rw [z]; rfl) c133 | some e => exact ⟨e, rfl⟩
                        have he64 := nbr_lt hb hp64 he
                        simp only [he, oI]
                        refine zJ_aload_n dX13_spreads_136 rfl ?_
                        refine zP_getr lf_X13_85 (zSt_ob hs 74 13 rfl) rfl (zSt_rf hs 74 40 557 rfl) dX13_spreads_137 ?_
                        refine zJ_iload dX13_spreads_140 rfl ?_
                        refine zP_iald (zSt_ar hs 557 64 rfl) (by first | assumption | with_reducible exact vp_in_nI (by omega) (by omega) | (simp (disch := omega) only [nI_add, pk_mul, pk_sub, pk_div, pk_rem, nI_clamp]; with_reducible exact vp_in_nI (by omega) (by omega))) dX13_spreads_142 ?_
                        rw [nI_clamp (by omega), hJ7 e he64]
                        refine zJ_iconst (v := -1) dX13_spreads_143 rfl ?_
                        refine zJ_icmp_eq 210 dX13_spreads_144 (by decide) (fun c144 => ?_) (fun c144 => ?_)
                        · skip
                          refine zJ_iinc1 dX13_spreads_210 rfl (by decide) ?_
                          refine zJ_goto 114 dX13_spreads_213 (by decide) ?_
                          refine zJ_back (zle_r (zle_r (zle_r (zle_r (zle_r (zle_r (zle_n zle_0))))))) rfl (stay (fun e' x h h2 => ?_))
                          rw [he] at h; cases h
                          rw [h2] at c144
                          exact absurd c144 (nI_ne1 (by have := hbnd e x he64 h2; omega))
                        · skip
                          obtain ⟨y, hy⟩ : ∃ y, F e = some y := by cases z : F e with | none => exact absurd (by rw [z]; rfl) c144 | some e => exact ⟨e, rfl⟩
                          have hfe : J 557 e = nI y := by rw [hJ7 e he64, hy]; rfl
                          have hyb := hbnd e y he64 hy
                          refine zJ_aload_n dX13_spreads_147 rfl ?_
                          refine zP_getr lf_X13_85 (zSt_ob hs 74 13 rfl) rfl (zSt_rf hs 74 40 557 rfl) dX13_spreads_148 ?_
                          refine zJ_iload dX13_spreads_151 rfl ?_
                          refine zP_iald (zSt_ar hs 557 64 rfl) (by first | assumption | with_reducible exact vp_in_nI (by omega) (by omega) | (simp (disch := omega) only [nI_add, pk_mul, pk_sub, pk_div, pk_rem, nI_clamp]; with_reducible exact vp_in_nI (by omega) (by omega))) dX13_spreads_153 ?_
                          rw [nI_clamp (by omega), hJ7 p hp64]
                          refine zJ_iconst (v := -1) dX13_spreads_154 rfl ?_
                          refine zJ_icmp_eq 186 dX13_spreads_155 (by decide) (fun c155 => ?_) (fun c155 => ?_)
                          · skip
                            refine zJ_aload_n dX13_spreads_186 rfl ?_
                            refine zP_getr lf_X13_85 (zSt_ob hs 74 13 rfl) rfl (zSt_rf hs 74 40 557 rfl) dX13_spreads_187 ?_
                            refine zJ_iload dX13_spreads_190 rfl ?_
                            refine zJ_aload_n dX13_spreads_192 rfl ?_
                            refine zP_getr lf_X13_85 (zSt_ob hs 74 13 rfl) rfl (zSt_rf hs 74 40 557 rfl) dX13_spreads_193 ?_
                            refine zJ_iload dX13_spreads_196 rfl ?_
                            refine zP_iald (zSt_ar hs 557 64 rfl) (by first | assumption | with_reducible exact vp_in_nI (by omega) (by omega) | (simp (disch := omega) only [nI_add, pk_mul, pk_sub, pk_div, pk_rem, nI_clamp]; with_reducible exact vp_in_nI (by omega) (by omega))) dX13_spreads_198 ?_
                            rw [nI_clamp (by omega), hfe]
                            refine zJ_aload_n dX13_spreads_199 rfl ?_
                            refine zP_getr lf_X13_88 (zSt_ob hs 74 13 rfl) rfl (zSt_rf hs 74 41 558 rfl) dX13_spreads_200 ?_
                            refine zJ_iload dX13_spreads_203 rfl ?_
                            refine zP_iald (zSt_ar hs 558 64 rfl) (by first | assumption | with_reducible exact vp_in_nI (by omega) (by omega) | (simp (disch := omega) only [nI_add, pk_mul, pk_sub, pk_div, pk_rem, nI_clamp]; with_reducible exact vp_in_nI (by omega) (by omega))) dX13_spreads_205 ?_
                            rw [nI_clamp (by omega), hdp]
                            refine zJ_iadd dX13_spreads_206 ?_
                            rw [nI_add]
                            refine zP_iast (zSt_ar hs 557 64 rfl) (by first | assumption | with_reducible exact vp_in_nI (by omega) (by omega) | (simp (disch := omega) only [nI_add, pk_mul, pk_sub, pk_div, pk_rem, nI_clamp]; with_reducible exact vp_in_nI (by omega) (by omega))) dX13_spreads_207 ?_
                            rw [nI_clamp (by omega)]
                            refine zJ_iconst (v := nI 1) dX13_spreads_208 rfl ?_
                            refine zJ_istore_m 3 dX13_spreads_209 rfl (Nat.le_of_ble_eq_true rfl) (by decide) ?_
                            refine zJ_iinc1 dX13_spreads_210 rfl (by decide) ?_
                            refine zJ_goto 114 dX13_spreads_213 (by decide) ?_
                            refine zJ_back (zle_r (zle_r (zle_r (zle_r (zle_r (zle_r (zle_n zle_0))))))) rfl (go e y he he64 hy (fun u h => ?_))
                            rw [h] at c155
                            exact absurd c155 (nI_ne1 (by have := hbnd p u hp64 h; omega))
                          · skip
                            obtain ⟨u, hu⟩ : ∃ u, F p = some u := by cases z : F p with | none => exact absurd (by rw [z]; rfl) c155 | some e => exact ⟨e, rfl⟩
                            have hfp : J 557 p = nI u := by rw [hJ7 p hp64, hu]; rfl
                            have hub := hbnd p u hp64 hu
                            refine zJ_aload_n dX13_spreads_158 rfl ?_
                            refine zP_getr lf_X13_85 (zSt_ob hs 74 13 rfl) rfl (zSt_rf hs 74 40 557 rfl) dX13_spreads_159 ?_
                            refine zJ_iload dX13_spreads_162 rfl ?_
                            refine zP_iald (zSt_ar hs 557 64 rfl) (by first | assumption | with_reducible exact vp_in_nI (by omega) (by omega) | (simp (disch := omega) only [nI_add, pk_mul, pk_sub, pk_div, pk_rem, nI_clamp]; with_reducible exact vp_in_nI (by omega) (by omega))) dX13_spreads_164 ?_
                            rw [nI_clamp (by omega), hfp]
                            refine zJ_aload_n dX13_spreads_165 rfl ?_
                            refine zP_getr lf_X13_85 (zSt_ob hs 74 13 rfl) rfl (zSt_rf hs 74 40 557 rfl) dX13_spreads_166 ?_
                            refine zJ_iload dX13_spreads_169 rfl ?_
                            refine zP_iald (zSt_ar hs 557 64 rfl) (by first | assumption | with_reducible exact vp_in_nI (by omega) (by omega) | (simp (disch := omega) only [nI_add, pk_mul, pk_sub, pk_div, pk_rem, nI_clamp]; with_reducible exact vp_in_nI (by omega) (by omega))) dX13_spreads_171 ?_
                            rw [nI_clamp (by omega), hfe]
                            refine zJ_aload_n dX13_spreads_172 rfl ?_
                            refine zP_getr lf_X13_88 (zSt_ob hs 74 13 rfl) rfl (zSt_rf hs 74 41 558 rfl) dX13_spreads_173 ?_
                            refine zJ_iload dX13_spreads_176 rfl ?_
                            refine zP_iald (zSt_ar hs 558 64 rfl) (by first | assumption | with_reducible exact vp_in_nI (by omega) (by omega) | (simp (disch := omega) only [nI_add, pk_mul, pk_sub, pk_div, pk_rem, nI_clamp]; with_reducible exact vp_in_nI (by omega) (by omega))) dX13_spreads_178 ?_
                            rw [nI_clamp (by omega), hdp]
                            refine zJ_iadd dX13_spreads_179 ?_
                            rw [nI_add]
                            refine zJ_icmp_gt 186 dX13_spreads_180 (by decide) (fun c180 => ?_) (fun c180 => ?_)
                            · skip
                              refine zJ_aload_n dX13_spreads_186 rfl ?_
                              refine zP_getr lf_X13_85 (zSt_ob hs 74 13 rfl) rfl (zSt_rf hs 74 40 557 rfl) dX13_spreads_187 ?_
                              refine zJ_iload dX13_spreads_190 rfl ?_
                              refine zJ_aload_n dX13_spreads_192 rfl ?_
                              refine zP_getr lf_X13_85 (zSt_ob hs 74 13 rfl) rfl (zSt_rf hs 74 40 557 rfl) dX13_spreads_193 ?_
                              refine zJ_iload dX13_spreads_196 rfl ?_
                              refine zP_iald (zSt_ar hs 557 64 rfl) (by first | assumption | with_reducible exact vp_in_nI (by omega) (by omega) | (simp (disch := omega) only [nI_add, pk_mul, pk_sub, pk_div, pk_rem, nI_clamp]; with_reducible exact vp_in_nI (by omega) (by omega))) dX13_spreads_198 ?_
                              rw [nI_clamp (by omega), hfe]
                              refine zJ_aload_n dX13_spreads_199 rfl ?_
                              refine zP_getr lf_X13_88 (zSt_ob hs 74 13 rfl) rfl (zSt_rf hs 74 41 558 rfl) dX13_spreads_200 ?_
                              refine zJ_iload dX13_spreads_203 rfl ?_
                              refine zP_iald (zSt_ar hs 558 64 rfl) (by first | assumption | with_reducible exact vp_in_nI (by omega) (by omega) | (simp (disch := omega) only [nI_add, pk_mul, pk_sub, pk_div, pk_rem, nI_clamp]; with_reducible exact vp_in_nI (by omega) (by omega))) dX13_spreads_205 ?_
                              rw [nI_clamp (by omega), hdp]
                              refine zJ_iadd dX13_spreads_206 ?_
                              rw [nI_add]
                              refine zP_iast (zSt_ar hs 557 64 rfl) (by first | assumption | with_reducible exact vp_in_nI (by omega) (by omega) | (simp (disch := omega) only [nI_add, pk_mul, pk_sub, pk_div, pk_rem, nI_clamp]; with_reducible exact vp_in_nI (by omega) (by omega))) dX13_spreads_207 ?_
                              rw [nI_clamp (by omega)]
                              refine zJ_iconst (v := nI 1) dX13_spreads_208 rfl ?_
                              refine zJ_istore_m 3 dX13_spreads_209 rfl (Nat.le_of_ble_eq_true rfl) (by decide) ?_
                              refine zJ_iinc1 dX13_spreads_210 rfl (by decide) ?_
                              refine zJ_goto 114 dX13_spreads_213 (by decide) ?_
                              refine zJ_back (zle_r (zle_r (zle_r (zle_r (zle_r (zle_r (zle_n zle_0))))))) rfl (go e y he he64 hy (fun u' h => ?_))
                              rw [hu] at h; cases h
                              exact Nat.lt_of_not_le (fun z => absurd c180 (nI_nlt z (by omega)))
                            · skip
                              refine zJ_goto 210 dX13_spreads_183 (by decide) ?_
                              refine zJ_iinc1 dX13_spreads_210 rfl (by decide) ?_
                              refine zJ_goto 114 dX13_spreads_213 (by decide) ?_
                              refine zJ_back (zle_r (zle_r (zle_r (zle_r (zle_r (zle_r (zle_n zle_0))))))) rfl (stay (fun e' x h h2 => ⟨u, hu, ?_⟩))
                              rw [he] at h; cases h
                              rw [hy] at h2; cases h2
                              exact Nat.le_of_not_lt (fun z => c180 (nI_lt z (by omega)))
                  refine zJ_back (zle_r (zle_r (zle_r (zle_r (zle_r (zle_r (zle_n zle_0))))))) rfl (dloop 4 0 (by omega) F J x ?_ hF hJ hJ7)
                  rcases hx with ⟨h1, h2, h3⟩ | h
                  · exact Or.inl ⟨h1, h2, h3, fun v' hv' => absurd hv' (Nat.not_lt_zero _)⟩
                  · exact Or.inr h
                · replace c105 := zb1.mp c105
                  refine zJ_goto 216 dX13_spreads_108 (by decide) ?_
                  refine zJ_iinc1 dX13_spreads_216 rfl (by decide) ?_
                  refine zJ_goto 70 dX13_spreads_219 (by decide) ?_
                  rw [hta] at c105
                  exact zJ_back (zle_r (zle_r (zle_r (zle_r (zle_r (zle_n (zle_n zle_0))))))) rfl (skip (fun h _ _ => by rw [h] at c105; cases c105))
        refine zJ_iload_n dX13_spreads_61 rfl ?_
        refine zJ_if_eq 225 dX13_spreads_62 (by decide) (fun c62 => absurd c62 (by decide)) (fun _ => ?_)
        refine zJ_iconst (v := nI 0) dX13_spreads_65 rfl ?_
        refine zJ_istore_m 3 dX13_spreads_66 rfl (Nat.le_of_ble_eq_true rfl) (by decide) ?_
        refine zJ_iconst (v := nI 0) dX13_spreads_67 rfl ?_
        refine zJ_istore dX13_spreads_68 (Nat.le_of_ble_eq_true rfl) (by decide) ?_
        exact zJ_back (zle_r (zle_r (zle_r (zle_r (zle_r (zle_n (zle_n zle_0))))))) rfl (ploop 64 0 (by omega) F0 J0 0 (Or.inl ⟨rfl, rfl, fun q hq => absurd hq (Nat.not_lt_zero _)⟩) hF0 hJ0 hJ07)
    refine zJ_iconst (v := nI 1) dX13_spreads_59 rfl ?_
    refine zJ_istore_m 3 dX13_spreads_60 rfl (Nat.le_of_ble_eq_true rfl) (by decide) ?_
    refine zJ_back (zle_r (zle_r (zle_r (zle_r (zle_n (zle_n (zle_n zle_0))))))) rfl (pass _ (fun q => if tin R n q then some 0 else none) K rfl ⟨fun p hp h => if_pos h, fun p hp h _ => by simp [h], fun p v hp h h2 => by simp [h] at h2, fun p v hp h2 => ?_⟩ (fun q _ => rfl) (fun q hq => ?_))
    · replace h2 : (if tin R n p = true then some 0 else none) = some v := h2
      split at h2
      · cases h2; omega
      · cases h2
    · rw [hK7 q hq]
      show _ = oI (if tin R n q = true then some 0 else none)
      split <;> rfl
  have mid : ∀ p (J : zI), p < 64 → rF I J → (∀ q, q < p + 1 → J 557 q = if tin R n q then 0 else -1) → (∀ q, q < p → insM b q = true → J 558 q = nI (c q)) → (∀ (K : zI), rF I K → (∀ q, q < p + 1 → K 557 q = if tin R n q then 0 else -1) → (∀ q, q < p + 1 → insM b q = true → K 558 q = nI (c q)) → zJ l Xi mX13_spreads d 0 0 2 [some (.ref 74), some (.ref a), some (.int (nI n)), some (.int (nI (p + 1))), none, none, none] [] (K, g) post) → zJ l Xi mX13_spreads d 0 0 28 [some (.ref 74), some (.ref a), some (.int (nI n)), some (.int (nI p)), none, none, none] [] (J, g) post := by
    intro p J hp hJ h1 h2 kk
    have hBJ := rB_rF hB hJ
    have hRJ : rRow J a b R := rRow_of hR (hJ a (by omega) (by omega) (by omega) (by omega))
    refine zJ_aload_n dX13_spreads_28 rfl ?_
    refine zP_getr lf_X13_88 (zSt_ob hs 74 13 rfl) rfl (zSt_rf hs 74 41 558 rfl) dX13_spreads_29 ?_
    refine zJ_iload_n dX13_spreads_32 rfl ?_
    refine zJ_aload_n dX13_spreads_33 rfl ?_
    refine zJ_iload_n dX13_spreads_34 rfl ?_
    refine zP_callVi [_] _ lv_X13_199 (k_isHere (d := d - 1) hl (by omega) hs hBJ hp) (zSt_ob hs 74 13 rfl) rfl (by omega) (Nat.le_of_ble_eq_true rfl) rfl dX13_spreads_35 ?_
    refine zJ_if_eq 51 dX13_spreads_38 (by decide) (fun c38 => ?_) (fun c38 => ?_)
    · replace c38 := zb0.mp c38
      refine zJ_iconst (v := nI 0) dX13_spreads_51 rfl ?_
      refine zP_iast (zSt_ar hs 558 64 rfl) (by first | assumption | with_reducible exact vp_in_nI (by omega) (by omega) | (simp (disch := omega) only [nI_add, pk_mul, pk_sub, pk_div, pk_rem, nI_clamp]; with_reducible exact vp_in_nI (by omega) (by omega))) dX13_spreads_52 ?_
      refine zJ_iinc1 dX13_spreads_53 rfl (by decide) ?_
      refine zJ_goto 2 dX13_spreads_56 (by decide) ?_
      refine zJ_back (zle_r (zle_r (zle_r (zle_r (zle_n (zle_n (zle_n zle_0))))))) rfl (kk _ (fun q k1 k2 k3 k4 => (zup_row k4).trans (hJ q k1 k2 k3 k4)) (fun q hq => by rw [zup_row (by decide)]; exact h1 q hq) (fun q hq hi => ?_))
      rw [nI_clamp (by omega), zup_same]
      by_cases z : q = p
      · subst z; rw [hi] at c38; cases c38
      · rw [upd_ne z]; exact h2 q (by omega) hi
    · replace c38 := zb1.mp c38
      refine zJ_aload_n dX13_spreads_41 rfl ?_
      refine zJ_aload_n dX13_spreads_42 rfl ?_
      refine zJ_iload_n dX13_spreads_43 rfl ?_
      refine zJ_iload_n dX13_spreads_44 rfl ?_
      refine zP_ecallVi [_, _, _] _ lv_X13_305 (m_costOf (d := d - 1) hl (by omega) hs hBJ ha hRJ hok hn hp) (zSt_ob hs 74 13 rfl) rfl (by omega) (Nat.le_of_ble_eq_true rfl) rfl dX13_spreads_45 (fun x K hK => ?_)
      refine zJ_goto 52 dX13_spreads_48 (by decide) ?_
      refine zP_iast (zSt_ar hs 558 64 rfl) (by first | assumption | with_reducible exact vp_in_nI (by omega) (by omega) | (simp (disch := omega) only [nI_add, pk_mul, pk_sub, pk_div, pk_rem, nI_clamp]; with_reducible exact vp_in_nI (by omega) (by omega))) dX13_spreads_52 ?_
      refine zJ_iinc1 dX13_spreads_53 rfl (by decide) ?_
      refine zJ_goto 2 dX13_spreads_56 (by decide) ?_
      obtain ⟨rfl, hK⟩ := hK
      refine zJ_back (zle_r (zle_r (zle_r (zle_r (zle_n (zle_n (zle_n zle_0))))))) rfl (kk _ (fun q k1 k2 k3 k4 => (zup_row k4).trans ((hK q k1 k2).trans (hJ q k1 k2 k3 k4))) (fun q hq => by rw [zup_row (by decide), hK 557 (by decide) (by decide)]; exact h1 q hq) (fun q hq hi => ?_))
      rw [nI_clamp (by omega), zup_same]
      by_cases z : q = p
      · subst z; rw [upd_at, hc]; exact cst_in.2.2
      · rw [upd_ne z, hK 558 (by decide) (by decide)]; exact h2 q (by omega) hi
  have init : ∀ m p, p + m = 64 → ∀ (J : zI), (rF I J ∧ (∀ q, q < p → J 557 q = if tin R n q then 0 else -1) ∧ ∀ q, q < p → insM b q = true → J 558 q = nI (c q)) → zJ l Xi mX13_spreads d 0 0 2 [some (.ref 74), some (.ref a), some (.int (nI n)), some (.int (nI p)), none, none, none] [] (J, g) post := by
    intro m
    induction m with
    | zero =>
      intro p hp J hI
      obtain rfl : p = 64 := by omega
      refine zJ_iload_n dX13_spreads_2 rfl ?_
      refine zJ_bipush (v := nI 64) dX13_spreads_3 rfl ?_
      refine zJ_icmp_ge 59 dX13_spreads_5 (by decide) (fun _ => ?_) (fun c5 => absurd (nI_le (by omega) (by omega)) c5)
      exact after J hI.1 hI.2.1 hI.2.2
    | succ m ih =>
      intro p hp J hI
      have hta : tin (J a) n p = tin R n p := r_tin (rRow_of hR (hI.1 a (by omega) (by omega) (by omega) (by omega))) (by omega) (by omega)
      refine zJ_iload_n dX13_spreads_2 rfl ?_
      refine zJ_bipush (v := nI 64) dX13_spreads_3 rfl ?_
      refine zJ_icmp_ge 59 dX13_spreads_5 (by decide) (fun c5 => absurd c5 (nI_ge (by omega) (by omega))) (fun _ => ?_)
      refine zJ_aload_n dX13_spreads_8 rfl ?_
      refine zP_getr lf_X13_85 (zSt_ob hs 74 13 rfl) rfl (zSt_rf hs 74 40 557 rfl) dX13_spreads_9 ?_
      refine zJ_iload_n dX13_spreads_12 rfl ?_
      refine zJ_aload_n dX13_spreads_13 rfl ?_
      refine zJ_iload_n dX13_spreads_14 rfl ?_
      refine zJ_iload_n dX13_spreads_15 rfl ?_
      refine zP_callSi [_, _, _] _ ls_X13_287 (k_isIn (d := d - 1) hl (by omega) ha (by omega) (by omega)) rfl (by omega) (Nat.le_of_ble_eq_true rfl) rfl dX13_spreads_16 ?_
      refine zJ_if_eq 26 dX13_spreads_19 (by decide) (fun c19 => ?_) (fun c19 => ?_)
      · replace c19 := zb0.mp c19
        refine zJ_iconst (v := -1) dX13_spreads_26 rfl ?_
        refine zP_iast (zSt_ar hs 557 64 rfl) (by first | assumption | with_reducible exact vp_in_nI (by omega) (by omega) | (simp (disch := omega) only [nI_add, pk_mul, pk_sub, pk_div, pk_rem, nI_clamp]; with_reducible exact vp_in_nI (by omega) (by omega))) dX13_spreads_27 ?_
        rw [hta] at c19
        rw [nI_clamp (by omega)]
        refine zJ_back (zle_r (zle_r (zle_r (zle_r (zle_n (zle_n (zle_n zle_0))))))) rfl (mid p _ (by omega) (fun q k1 k2 k3 k4 => (zup_row k3).trans (hI.1 q k1 k2 k3 k4)) (fun q hq => ?_) (fun q hq hi => by rw [zup_row (by decide)]; exact hI.2.2 q hq hi) (fun K k1 k2 k3 => ih (p + 1) (by omega) K ⟨k1, k2, k3⟩))
        rw [zup_same]
        by_cases z : q = p
        · subst z; rw [upd_at, c19]; rfl
        · rw [upd_ne z]; exact hI.2.1 q (by omega)
      · replace c19 := zb1.mp c19
        refine zJ_iconst (v := nI 0) dX13_spreads_22 rfl ?_
        refine zJ_goto 27 dX13_spreads_23 (by decide) ?_
        refine zP_iast (zSt_ar hs 557 64 rfl) (by first | assumption | with_reducible exact vp_in_nI (by omega) (by omega) | (simp (disch := omega) only [nI_add, pk_mul, pk_sub, pk_div, pk_rem, nI_clamp]; with_reducible exact vp_in_nI (by omega) (by omega))) dX13_spreads_27 ?_
        rw [hta] at c19
        rw [nI_clamp (by omega)]
        refine zJ_back (zle_r (zle_r (zle_r (zle_r (zle_n (zle_n (zle_n zle_0))))))) rfl (mid p _ (by omega) (fun q k1 k2 k3 k4 => (zup_row k3).trans (hI.1 q k1 k2 k3 k4)) (fun q hq => ?_) (fun q hq hi => by rw [zup_row (by decide)]; exact hI.2.2 q hq hi) (fun K k1 k2 k3 => ih (p + 1) (by omega) K ⟨k1, k2, k3⟩))
        rw [zup_same]
        by_cases z : q = p
        · subst z; rw [upd_at, c19]; rfl
        · rw [upd_ne z]; exact hI.2.1 q (by omega)
  refine zJ_iconst (v := nI 0) dX13_spreads_0 rfl ?_
  refine zJ_istore_m 3 dX13_spreads_1 rfl (Nat.le_of_ble_eq_true rfl) (by decide) ?_
  exact init 64 0 (by omega) I ⟨rF_rfl, fun q hq => absurd hq (Nat.not_lt_zero _), fun q hq => absurd hq (Nat.not_lt_zero _)⟩
end ZRefD
