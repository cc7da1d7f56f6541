/-! ===== Router.spread, walked ===== -/
section ZSpread2
variable {l : Launch} {Xi : zXi} {d : Nat} {I : zI} {g : zG}
theorem k_isEmpty (hl : l.stackTraces = false) (hd : 1 ≤ d) {b : Nat} (hb : zK g b 3 zLt_Heap) : zD l Xi mX3_isEmpty d [.ref b] I g (some (.int (if decide (I b 1 = 0) then 1 else 0))) I := by
  have h := k_X3_isEmpty (Xi := Xi) (I := I) hl hd hb
  by_cases e : I b 1 = 0
  · rw [if_pos e] at h
    rw [show decide (I b 1 = 0) = true by simp [e]]
    exact h
  · rw [if_neg e] at h
    rw [show decide (I b 1 = 0) = false by simp [e]]
    exact h
set_option maxHeartbeats 4000000 in
theorem k_X6_spread (hl : l.stackTraces = false) (hd : 4 ≤ d) (hs : zSt g) {s n len : Nat} {c : Nat → Nat} {D : Nat → Option Nat} {whole : Bool} (hst : zK g s 8 zLt_State) (hsN : 60 < s) (hn : n < 6) (hlen : I 21 3 = nI len) (hlaw : lawOk (I 23) len) (hb : bok (I 11)) (hc : ∀ q, q < 64 → 1 ≤ c q ∧ c q ≤ 999 ∧ cstI I s n q len = nI (c q)) (hF : FPd (tin (I (s + 1)) n) (wlB (I (s + 4))) (adB (I 11)) c D) (hpr : ∀ q, q < 64 → I 47 q = 0 ∨ I 47 q = nI (c q)) : zEv l Xi mX6_spread d [.ref 43, .ref s, .int (nI n), .int (if whole then 1 else 0)] I g (fun J => spQ I J s n c D whole) := by
  refine zC_of hl rfl rfl rfl (Nat.le_of_ble_eq_true rfl) (zav_r (zSt_ob hs 43 6 rfl).1 (zav_r hst.1.1 (zav_i (zav_i zav_0)))) ?_
  have hc1 : ∀ p, p < 64 → 1 ≤ c p := fun p hp => (hc p hp).1
  have row : ∀ J, sb I J → J (s + 1) = I (s + 1) ∧ J (s + 4) = I (s + 4) ∧ J 11 = I 11 ∧ J 8 = I 8 ∧ J 21 = I 21 ∧ J 23 = I 23 := fun J h => ⟨h _ (by omega) (by omega) (by omega) (by omega) (by omega) (by omega), h _ (by omega) (by omega) (by omega) (by omega) (by omega) (by omega), h _ (by omega) (by omega) (by omega) (by omega) (by omega) (by omega), h _ (by omega) (by omega) (by omega) (by omega) (by omega) (by omega), h _ (by omega) (by omega) (by omega) (by omega) (by omega) (by omega), h _ (by omega) (by omega) (by omega) (by omega) (by omega) (by omega)⟩
  have main : ∀ m i, i + m = 320 → ∀ (J : zI) (F : Nat → Option Nat) (P : Nat → Bool) (S : Nat → Nat → Prop) (sz : Nat) (Bd : Option Nat), (spI I J s n c D F P S (adB (I 11)) sz ∧ sz + i ≤ cB (tin (I (s + 1)) n) 64 + 4 * cB P 64 ∧ (∀ b, Bd = some b → 0 < b ∧ b ≤ 64000 ∧ ∃ q, q < 64 ∧ bitB (I 8 q) n = true ∧ D q = some b) ∧ (whole = true → Bd = none)) → zJ l Xi mX6_spread d 0 0 66 [some (.ref 43), some (.ref s), some (.int (nI n)), some (.int (if whole then 1 else 0)), some (.int (enc Bd)), some (.int (nI i)), none, none, none, none, none] [] (J, g) (fun r' h' => r' = .inl none ∧ ∃ I', h' = (I', g) ∧ spQ I I' s n c D whole) := by
    intro m
    induction m with
    | zero =>
      intro i hp J F P S sz Bd hI
      obtain rfl : i = 320 := by omega
      refine zJ_iload dX6_spread_66 rfl ?_
      refine zJ_sipush (v := nI 320) dX6_spread_68 rfl ?_
      refine zJ_icmp_ge 295 dX6_spread_71 (by decide) (fun _ => ?_) (fun c71 => absurd (nI_le (by omega) (by omega)) c71)
      refine zJ_vret rfl dX6_spread_295 ?_
      obtain ⟨hsp, hcnt, hB, hw⟩ := hI
      have h1 := cB_le (f := tin (I (s + 1)) n) (n := 64)
      have h2 := cB_le (f := P) (n := 64)
      have hsz0 : sz = 0 := by omega
      refine ⟨rfl, J, rfl, sp_end (m := none) hc1 hF hsp (fun a p hS => ?_) (fun k hk => by cases hk) (fun b hb => ⟨(hB b hb).1, (hB b hb).2.2⟩) hw⟩
      obtain ⟨k, hk, -⟩ := (hsp.2.2.1.2.1 (nI (a * 64 + p))).mp ⟨a, p, hS, rfl⟩
      omega
    | succ m ih =>
      intro i hp J F P S sz Bd hI
      obtain ⟨hsp, hcnt, hB, hw⟩ := hI
      obtain ⟨hsb, hJsz, hhp, hfar, hprc, hdk⟩ := id hsp
      obtain ⟨r1, r4, r11, r8, r21, r23⟩ := row J hsb
      have hcT := cB_le (f := tin (I (s + 1)) n) (n := 64)
      have hcP := cB_le (f := P) (n := 64)
      refine zJ_iload dX6_spread_66 rfl ?_
      refine zJ_sipush (v := nI 320) dX6_spread_68 rfl ?_
      refine zJ_icmp_ge 295 dX6_spread_71 (by decide) (fun c71 => absurd c71 (nI_ge (by omega) (by omega))) (fun _ => ?_)
      refine zJ_aload_n dX6_spread_74 rfl ?_
      refine zP_getr lf_X6_12 (zSt_ob hs 43 6 rfl) rfl (zSt_rf hs 43 3 44 rfl) dX6_spread_75 ?_
      refine zP_callVi [] _ lv_X6_164 (k_isEmpty (d := d - 1) hl (by omega) (zSt_heapR hs)) (zSt_ob hs 44 3 rfl) rfl (by omega) (Nat.le_of_ble_eq_true rfl) rfl dX6_spread_78 ?_
      refine zJ_if_ne 295 dX6_spread_81 (by decide) (fun c81 => ?_) (fun c81 => ?_)
      · replace c81 := zb1.mp c81
        refine zJ_vret rfl dX6_spread_295 ?_
        have hJ0 : J 44 1 = 0 := of_decide_eq_true c81
        have hsz0 : sz = 0 := by
          rw [hJsz] at hJ0
          rcases Nat.eq_zero_or_pos sz with e | e
          · exact e
          · exact absurd hJ0 (nI_ne0 e (by omega))
        refine ⟨rfl, J, rfl, sp_end (m := none) hc1 hF hsp (fun a p hS => ?_) (fun k hk => by cases hk) (fun b hb => ⟨(hB b hb).1, (hB b hb).2.2⟩) hw⟩
        obtain ⟨k, hk, -⟩ := (hhp.2.1 (nI (a * 64 + p))).mp ⟨a, p, hS, rfl⟩
        omega
      · replace c81 := zb0.mp c81
        have hJ0 : ¬ J 44 1 = 0 := of_decide_eq_false c81
        have hszp : 0 < sz := by rcases Nat.eq_zero_or_pos sz with e | e; exact absurd (by rw [hJsz, e]; rfl) hJ0; exact e
        obtain ⟨sz', rfl⟩ : ∃ k, sz = k + 1 := ⟨sz - 1, by omega⟩
        refine zJ_aload_n dX6_spread_84 rfl ?_
        refine zP_getr lf_X6_12 (zSt_ob hs 43 6 rfl) rfl (zSt_rf hs 43 3 44 rfl) dX6_spread_85 ?_
        refine zP_ecallVi [] _ lv_X6_168 (k_X3_pop (d := d - 1) hl (by omega) (zSt_heapR hs) hJsz (by omega) hhp) (zSt_ob hs 44 3 rfl) rfl (by omega) (Nat.le_of_ble_eq_true rfl) rfl dX6_spread_88 (fun x J1 hx => ?_)
        obtain ⟨⟨a, p, hS, rfl⟩, hmin, f, rfl, hhp1⟩ := hx
        obtain ⟨hp64, ha64, a', hFp, hale⟩ := hdk.2.2.2.1 a p hS
        have hmn : ∀ a2 p2, S a2 p2 → a ≤ a2 := fun a2 p2 h2 => by have h3 := hmin _ ⟨a2, p2, h2, rfl⟩; have h4 := hdk.2.2.2.1 a2 p2 h2; rw [nI_toInt (by omega), nI_toInt (by omega)] at h3; omega
        have hkey : ∀ v, (keyS S v ∧ v ≠ nI (a * 64 + p)) ↔ keyS (fun x y => S x y ∧ ¬ (x = a ∧ y = p)) v := fun v => ⟨fun ⟨⟨a2, p2, h2, e2⟩, hne⟩ => ⟨a2, p2, ⟨h2, fun z => hne (by rw [e2, z.1, z.2])⟩, e2⟩, fun ⟨a2, p2, ⟨h2, hne⟩, e2⟩ => ⟨⟨a2, p2, h2, e2⟩, fun z => hne (by have h4 := hdk.2.2.2.1 a2 p2 h2; exact key_inj h4.2.1 h4.1 ha64 hp64 (e2.symm.trans z))⟩⟩
        refine zJ_istore dX6_spread_91 (Nat.le_of_ble_eq_true rfl) (by decide) ?_
        refine zJ_iload dX6_spread_93 rfl ?_
        refine zJ_bipush (v := nI 64) dX6_spread_95 rfl ?_
        refine zJ_irem dX6_spread_97 (by decide) ?_
        rw [pk_rem (by omega) (by omega) (by omega), show (a * 64 + p) % 64 = p by omega]
        refine zJ_istore dX6_spread_98 (Nat.le_of_ble_eq_true rfl) (by decide) ?_
        refine zJ_iload dX6_spread_100 rfl ?_
        refine zJ_bipush (v := nI 64) dX6_spread_102 rfl ?_
        refine zJ_idiv dX6_spread_104 (by decide) ?_
        rw [pk_div (by omega) (by omega) (by omega), show (a * 64 + p) / 64 = a by omega]
        refine zJ_istore dX6_spread_105 (Nat.le_of_ble_eq_true rfl) (by decide) ?_
        obtain ⟨J1, hJ1⟩ : ∃ K, K = va_up (zup J 44 1 (nI sz')) (44 + 1) f := ⟨_, rfl⟩
        rw [← hJ1]
        have q45 : J1 45 = f := by rw [hJ1]; exact va_up_same
        have q44 : J1 44 1 = nI sz' := by rw [hJ1, va_up_row (by decide), zup_same, upd_at]
        have q46 : J1 46 = J 46 := by rw [hJ1, va_up_row (by decide), zup_row (by decide)]
        have q47 : J1 47 = J 47 := by rw [hJ1, va_up_row (by decide), zup_row (by decide)]
        have hsb1 : sb I J1 := by rw [hJ1]; exact sb_up (sb_zup hsb (by decide)) (by decide)
        obtain ⟨w1, w4, w11, w8, w21, w23⟩ := row J1 hsb1
        have hfar1 : ∀ q, q < 64 → J1 46 q = enc (F q) := fun q hq => by rw [q46]; exact hfar q hq
        have hprc1 : ∀ q, q < 64 → (J1 47 q = 0 ∧ (F q = none ∨ tin (I (s + 1)) n q = true)) ∨ J1 47 q = nI (c q) := fun q hq => by rw [q47]; exact hprc q hq
        have hhp2 : hpH (J1 45) sz' (keyS (fun x y => S x y ∧ ¬ (x = a ∧ y = p))) := by rw [q45]; exact hpH_congr hhp1 hkey
        have h289 : ∀ (J2 : zI) (F2 : Nat → Option Nat) (P2 : Nat → Bool) (S2 : Nat → Nat → Prop) (sz2 : Nat) (Bd2 : Option Nat), spI I J2 s n c D F2 P2 S2 (adB (I 11)) sz2 → sz2 + (i + 1) ≤ cB (tin (I (s + 1)) n) 64 + 4 * cB P2 64 → (∀ b, Bd2 = some b → 0 < b ∧ b ≤ 64000 ∧ ∃ q, q < 64 ∧ bitB (I 8 q) n = true ∧ D q = some b) → (whole = true → Bd2 = none) → zJ l Xi mX6_spread d 0 0 289 [some (.ref 43), some (.ref s), some (.int (nI n)), some (.int (if whole then 1 else 0)), some (.int (enc Bd2)), some (.int (nI i)), none, none, none, none, none] [] (J2, g) (fun r' h' => r' = .inl none ∧ ∃ I', h' = (I', g) ∧ spQ I I' s n c D whole) := by
          intro J2 F2 P2 S2 sz2 Bd2 k1 k2 k3 k4
          refine zJ_iinc1 dX6_spread_289 rfl (by decide) ?_
          refine zJ_goto 66 dX6_spread_292 (by decide) ?_
          exact ih (i + 1) (by omega) J2 F2 P2 S2 sz2 Bd2 ⟨k1, k2, k3, k4⟩
        have h156 : F p = some a → ∀ (Bd2 : Option Nat), (∀ b, Bd2 = some b → 0 < b ∧ b ≤ 64000 ∧ ∃ q, q < 64 ∧ bitB (I 8 q) n = true ∧ D q = some b) → (whole = true → Bd2 = none) → zJ l Xi mX6_spread d 0 0 156 [some (.ref 43), some (.ref s), some (.int (nI n)), some (.int (if whole then 1 else 0)), some (.int (enc Bd2)), some (.int (nI i)), none, some (.int (nI p)), some (.int (nI a)), none, none] [] (J1, g) (fun r' h' => r' = .inl none ∧ ∃ I', h' = (I', g) ∧ spQ I I' s n c D whole) := by
          intro hFa Bd2 k3 k4
          have hDp := dk_pop hc1 hF (dkK_I hdk) hS hmn hFa
          obtain ⟨hPp, hdk2, ha999⟩ := dkK_take hdk hS hFa hDp
          have hcP2 := cB_set (f := P) hp64 hPp
          have hcP3 := cB_le (f := setB P p) (n := 64)
          have hPs : setB P p p = true := by simp [setB]
          have inner : ∀ m v, v + m = 4 → ∀ (J2 : zI) (F2 : Nat → Option Nat) (S2 : Nat → Nat → Prop) (sz2 : Nat), (spI I J2 s n c D F2 (setB P p) S2 (fun x y => (adB (I 11) x y ∧ x ≠ p) ∨ (x = p ∧ ∃ v', v' < v ∧ unI (I 11 (p * 4 + v')) = some y)) sz2 ∧ sz2 + (i + 1) ≤ cB (tin (I (s + 1)) n) 64 + 4 * cB P 64 + v ∧ F2 p = some a) → zJ l Xi mX6_spread d 0 0 159 [some (.ref 43), some (.ref s), some (.int (nI n)), some (.int (if whole then 1 else 0)), some (.int (enc Bd2)), some (.int (nI i)), none, some (.int (nI p)), some (.int (nI a)), some (.int (nI v)), none] [] (J2, g) (fun r' h' => r' = .inl none ∧ ∃ I', h' = (I', g) ∧ spQ I I' s n c D whole) := by
            intro m
            induction m with
            | zero =>
              intro v hp J2 F2 S2 sz2 hI
              obtain rfl : v = 4 := by omega
              refine zJ_iload dX6_spread_159 rfl ?_
              refine zJ_iconst (v := nI 4) dX6_spread_161 rfl ?_
              refine zJ_icmp_ge 289 dX6_spread_162 (by decide) (fun _ => ?_) (fun c162 => absurd (nI_le (by omega) (by omega)) c162)
              obtain ⟨hsp2, hcnt2, hFp2⟩ := hI
              obtain ⟨t1, t2, t3, t4, t5, t6⟩ := hsp2
              refine zJ_back (zle_r (zle_r (zle_r (zle_r (zle_r (zle_r (zle_n (zle_n (zle_n (zle_n (zle_n zle_0))))))))))) rfl (h289 J2 F2 (setB P p) S2 sz2 Bd2 ⟨t1, t2, t3, t4, t5, dkK_R t6 (fun x y hx hy hwy had => ?_)⟩ (by omega) k3 k4)
              by_cases e : x = p
              · subst e; exact Or.inr ⟨rfl, had⟩
              · exact Or.inl ⟨had, e⟩
            | succ m ih =>
              intro v hp J2 F2 S2 sz2 hI
              obtain ⟨hsp2, hcnt2, hFp2⟩ := hI
              obtain ⟨t1, t2, t3, t4, t5, t6⟩ := hsp2
              obtain ⟨u1, u4, u11, u8, u21, u23⟩ := row J2 t1
              refine zJ_iload dX6_spread_159 rfl ?_
              refine zJ_iconst (v := nI 4) dX6_spread_161 rfl ?_
              refine zJ_icmp_ge 289 dX6_spread_162 (by decide) (fun c162 => absurd c162 (nI_ge (by omega) (by omega))) (fun _ => ?_)
              refine zJ_aload_n dX6_spread_165 rfl ?_
              refine zP_getr lf_X6_28 (zSt_ob hs 43 6 rfl) rfl (zSt_rf hs 43 0 3 rfl) dX6_spread_166 ?_
              refine zP_getr lf_X6_175 (zSt_ob hs 3 0 rfl) rfl (zSt_rf hs 3 11 11 rfl) dX6_spread_169 ?_
              refine zJ_iload dX6_spread_172 rfl ?_
              refine zJ_iconst (v := nI 4) dX6_spread_174 rfl ?_
              refine zJ_imul dX6_spread_175 ?_
              refine zJ_iload dX6_spread_176 rfl ?_
              refine zJ_iadd dX6_spread_178 ?_
              refine zP_iald (zSt_ar hs 11 256 rfl) (by first | assumption | with_reducible exact vp_in_nI (by omega) (by omega) | (simp (disch := omega) only [nI_add, pk_mul, pk_sub, pk_div, pk_rem, nI_clamp]; with_reducible exact vp_in_nI (by omega) (by omega))) dX6_spread_179 ?_
              simp (disch := omega) only [nI_add, pk_mul, nI_clamp]
              rw [u11, ← oI_un hb (show p * 4 + v < 256 by omega)]
              refine zJ_istore dX6_spread_180 (Nat.le_of_ble_eq_true rfl) (by decide) ?_
              have h283 : ∀ (J3 : zI) (F3 : Nat → Option Nat) (S3 : Nat → Nat → Prop) (sz3 : Nat), spI I J3 s n c D F3 (setB P p) S3 (fun x y => (adB (I 11) x y ∧ x ≠ p) ∨ (x = p ∧ ∃ v', v' < v + 1 ∧ unI (I 11 (p * 4 + v')) = some y)) sz3 → sz3 + (i + 1) ≤ cB (tin (I (s + 1)) n) 64 + 4 * cB P 64 + (v + 1) → F3 p = some a → ∀ o10, zJ l Xi mX6_spread d 0 0 283 [some (.ref 43), some (.ref s), some (.int (nI n)), some (.int (if whole then 1 else 0)), some (.int (enc Bd2)), some (.int (nI i)), none, some (.int (nI p)), some (.int (nI a)), some (.int (nI v)), o10] [] (J3, g) (fun r' h' => r' = .inl none ∧ ∃ I', h' = (I', g) ∧ spQ I I' s n c D whole) := by
                intro J3 F3 S3 sz3 m1 m2 m3 o10
                refine zJ_iinc1 dX6_spread_283 rfl (by decide) ?_
                refine zJ_goto 159 dX6_spread_286 (by decide) ?_
                exact zJ_back (zle_r (zle_r (zle_r (zle_r (zle_r (zle_r (zle_n (zle_r (zle_r (zle_r (zle_n zle_0))))))))))) rfl (ih (v + 1) (by omega) J3 F3 S3 sz3 ⟨m1, m2, m3⟩)
              cases hnx : unI (I 11 (p * 4 + v)) with
              | none =>
                refine zJ_iload dX6_spread_182 rfl ?_
                refine zJ_iconst (v := -1) dX6_spread_184 rfl ?_
                refine zJ_icmp_eq 283 dX6_spread_185 (by decide) (fun _ => ?_) (fun c185 => absurd rfl c185)
                refine zJ_back (zle_r (zle_r (zle_r (zle_r (zle_r (zle_r (zle_n (zle_r (zle_r (zle_r (zle_n zle_0))))))))))) rfl (h283 J2 F2 S2 sz2 ⟨t1, t2, t3, t4, t5, dkK_R t6 (fun x y hx hy hwy had => ?_)⟩ (by omega) hFp2 none)
                rcases had with h | ⟨h1, v', h2, h3⟩
                · exact Or.inl h
                · refine Or.inr ⟨h1, v', ?_, h3⟩
                  rcases Nat.lt_or_ge v' v with q | q
                  · exact q
                  · rw [show v' = v by omega, hnx] at h3; cases h3
              | some q =>
                have hq64 := un_lt hb (by omega) hnx
                have hadq : adB (I 11) p q := ⟨v, by omega, hnx⟩
                refine zJ_iload dX6_spread_182 rfl ?_
                refine zJ_iconst (v := -1) dX6_spread_184 rfl ?_
                refine zJ_icmp_eq 283 dX6_spread_185 (by decide) (fun c185 => absurd c185 (nI_ne1 (by omega))) (fun _ => ?_)
                simp only [show oI (some q) = nI q from rfl]
                refine zJ_aload_n dX6_spread_188 rfl ?_
                refine zP_getr lf_X6_96 hst.1 rfl (zK_rf hst 3 3 4 64 rfl) dX6_spread_189 ?_
                refine zJ_iload dX6_spread_192 rfl ?_
                refine zP_iald (zK_ar hst 3 3 4 64 rfl) (by first | assumption | with_reducible exact vp_in_nI (by omega) (by omega) | (simp (disch := omega) only [nI_add, pk_mul, pk_sub, pk_div, pk_rem, nI_clamp]; with_reducible exact vp_in_nI (by omega) (by omega))) dX6_spread_194 ?_
                rw [nI_clamp (by omega), u4]
                refine zJ_if_eq 201 dX6_spread_195 (by decide) (fun c195 => ?_) (fun c195 => ?_)
                · skip
                  have hwq : wlB (I (s + 4)) q = false := by simp [wlB, c195]
                  have h226 : ∀ (J3 : zI), spI I J3 s n c D F2 (setB P p) S2 (fun x y => (adB (I 11) x y ∧ x ≠ p) ∨ (x = p ∧ ∃ v', v' < v ∧ unI (I 11 (p * 4 + v')) = some y)) sz2 → J3 47 q = nI (c q) → zJ l Xi mX6_spread d 0 0 226 [some (.ref 43), some (.ref s), some (.int (nI n)), some (.int (if whole then 1 else 0)), some (.int (enc Bd2)), some (.int (nI i)), none, some (.int (nI p)), some (.int (nI a)), some (.int (nI v)), some (.int (nI q))] [] (J3, g) (fun r' h' => r' = .inl none ∧ ∃ I', h' = (I', g) ∧ spQ I I' s n c D whole) := by
                    intro J3 hsp3 h47
                    obtain ⟨x1, x2, x3, x4, x5, x6⟩ := hsp3
                    have hcq := (hc q hq64).2.1
                    have hRR : ∀ {F9 : Nat → Option Nat} {S9 : Nat → Nat → Prop}, dkK (tin (I (s + 1)) n) (wlB (I (s + 4))) c D F9 (setB P p) S9 (fun x y => ((adB (I 11) x y ∧ x ≠ p) ∨ (x = p ∧ ∃ v', v' < v ∧ unI (I 11 (p * 4 + v')) = some y)) ∨ (x = p ∧ y = q)) → dkK (tin (I (s + 1)) n) (wlB (I (s + 4))) c D F9 (setB P p) S9 (fun x y => (adB (I 11) x y ∧ x ≠ p) ∨ (x = p ∧ ∃ v', v' < v + 1 ∧ unI (I 11 (p * 4 + v')) = some y)) := fun h9 => dkK_R h9 (fun x y hx hy hwy had => by
                      rcases had with h | ⟨h1, v', h2, h3⟩
                      · exact Or.inl (Or.inl h)
                      · rcases Nat.lt_or_ge v' v with z | z
                        · exact Or.inl (Or.inr ⟨h1, v', z, h3⟩)
                        · rw [show v' = v by omega, hnx] at h3; cases h3; exact Or.inr ⟨h1, rfl⟩)
                    refine zJ_iload dX6_spread_226 rfl ?_
                    refine zJ_aload_n dX6_spread_228 rfl ?_
                    refine zP_getr lf_X6_22 (zSt_ob hs 43 6 rfl) rfl (zSt_rf hs 43 5 47 rfl) dX6_spread_229 ?_
                    refine zJ_iload dX6_spread_232 rfl ?_
                    refine zP_iald (zSt_ar hs 47 64 rfl) (by first | assumption | with_reducible exact vp_in_nI (by omega) (by omega) | (simp (disch := omega) only [nI_add, pk_mul, pk_sub, pk_div, pk_rem, nI_clamp]; with_reducible exact vp_in_nI (by omega) (by omega))) dX6_spread_234 ?_
                    rw [nI_clamp (by omega), h47]
                    refine zJ_iadd dX6_spread_235 ?_
                    refine zJ_aload_n dX6_spread_236 rfl ?_
                    refine zP_getr lf_X6_18 (zSt_ob hs 43 6 rfl) rfl (zSt_rf hs 43 4 46 rfl) dX6_spread_237 ?_
                    refine zJ_iload dX6_spread_240 rfl ?_
                    refine zP_iald (zSt_ar hs 46 64 rfl) (by first | assumption | with_reducible exact vp_in_nI (by omega) (by omega) | (simp (disch := omega) only [nI_add, pk_mul, pk_sub, pk_div, pk_rem, nI_clamp]; with_reducible exact vp_in_nI (by omega) (by omega))) dX6_spread_242 ?_
                    rw [nI_add, nI_clamp (by omega), x4 q hq64]
                    refine zJ_icmp_ge 283 dX6_spread_243 (by decide) (fun c243 => ?_) (fun c243 => ?_)
                    · skip
                      have hsm : ∃ b, F2 q = some b ∧ b ≤ a + c q := by
                        cases e2 : F2 q with
                        | none =>
                          rw [e2] at c243
                          have := Int32.le_iff_toInt_le.mp c243
                          rw [nI_toInt (by omega), show (enc none).toInt = 1000000 by decide] at this
                          have := (hc q hq64).2.1
                          omega
                        | some b =>
                          rw [e2] at c243
                          exact ⟨b, rfl, (nI_leI (by have := (x6.1 q b hq64 e2).2; omega) (by omega)).mp c243⟩
                      obtain ⟨b, hb1, hb2⟩ := hsm
                      exact zJ_back (zle_r (zle_r (zle_r (zle_r (zle_r (zle_r (zle_n (zle_r (zle_r (zle_r (zle_n zle_0))))))))))) rfl (h283 J3 F2 S2 sz2 ⟨x1, x2, x3, x4, x5, hRR (dkK_same x6 hFp2 hb1 hb2)⟩ (by omega) hFp2 none)
                    · skip
                      refine zJ_aload_n dX6_spread_246 rfl ?_
                      refine zP_getr lf_X6_18 (zSt_ob hs 43 6 rfl) rfl (zSt_rf hs 43 4 46 rfl) dX6_spread_247 ?_
                      refine zJ_iload dX6_spread_250 rfl ?_
                      refine zJ_iload dX6_spread_252 rfl ?_
                      refine zJ_aload_n dX6_spread_254 rfl ?_
                      refine zP_getr lf_X6_22 (zSt_ob hs 43 6 rfl) rfl (zSt_rf hs 43 5 47 rfl) dX6_spread_255 ?_
                      refine zJ_iload dX6_spread_258 rfl ?_
                      refine zP_iald (zSt_ar hs 47 64 rfl) (by first | assumption | with_reducible exact vp_in_nI (by omega) (by omega) | (simp (disch := omega) only [nI_add, pk_mul, pk_sub, pk_div, pk_rem, nI_clamp]; with_reducible exact vp_in_nI (by omega) (by omega))) dX6_spread_260 ?_
                      rw [nI_clamp (by omega), h47]
                      refine zJ_iadd dX6_spread_261 ?_
                      rw [nI_add]
                      refine zP_iast (zSt_ar hs 46 64 rfl) (by first | assumption | with_reducible exact vp_in_nI (by omega) (by omega) | (simp (disch := omega) only [nI_add, pk_mul, pk_sub, pk_div, pk_rem, nI_clamp]; with_reducible exact vp_in_nI (by omega) (by omega))) dX6_spread_262 ?_
                      rw [nI_clamp (by omega)]
                      refine zJ_aload_n dX6_spread_263 rfl ?_
                      refine zP_getr lf_X6_12 (zSt_ob hs 43 6 rfl) rfl (zSt_rf hs 43 3 44 rfl) dX6_spread_264 ?_
                      refine zJ_aload_n dX6_spread_267 rfl ?_
                      refine zP_getr lf_X6_18 (zSt_ob hs 43 6 rfl) rfl (zSt_rf hs 43 4 46 rfl) dX6_spread_268 ?_
                      refine zJ_iload dX6_spread_271 rfl ?_
                      refine zP_iald (zSt_ar hs 46 64 rfl) (by first | assumption | with_reducible exact vp_in_nI (by omega) (by omega) | (simp (disch := omega) only [nI_add, pk_mul, pk_sub, pk_div, pk_rem, nI_clamp]; with_reducible exact vp_in_nI (by omega) (by omega))) dX6_spread_273 ?_
                      rw [nI_clamp (by omega), zup_same, upd_at]
                      refine zJ_bipush (v := nI 64) dX6_spread_274 rfl ?_
                      refine zJ_imul dX6_spread_276 ?_
                      refine zJ_iload dX6_spread_277 rfl ?_
                      refine zJ_iadd dX6_spread_279 ?_
                      rw [pk_mul, nI_add]
                      have hbet : ∀ b, F2 q = some b → a + c q < b := fun b hb2 => by rw [hb2] at c243; exact Nat.not_le.mp (fun z => c243 (nI_le z (by have := (x6.1 q b hq64 hb2).2; omega)))
                      have hca : a + c q ≤ 999 * cB (setB P p) 64 := by have := (hc q hq64).2.1; omega
                      obtain ⟨hfresh, hdk3⟩ := dkK_better (fun z hz => (hc z hz).2.1) hF x6 hPs hFp2 hca hq64 hadq hwq hbet
                      have y44 : zup J3 46 q (nI (a + c q)) 44 1 = nI sz2 := by rw [zup_row (by decide)]; exact x2
                      have y45 : hpH (zup J3 46 q (nI (a + c q)) (44 + 1)) sz2 (keyS S2) := by rw [zup_row (by decide)]; exact x3
                      have hnk : ¬ keyS S2 (nI ((a + c q) * 64 + q)) := fun ⟨a2, p2, h2, e2⟩ => by have h4 := x6.2.2.2.1 a2 p2 h2; obtain ⟨z1, z2⟩ := key_inj (by omega) hq64 h4.2.1 h4.1 e2; exact hfresh (by rw [z1, z2]; exact h2)
                      refine zP_ecallVv [_] _ lv_X6_160 (k_X3_push (d := d - 1) hl (by omega) (zSt_heapR hs) y44 (by omega) y45 hnk) (zSt_ob hs 44 3 rfl) rfl (by omega) (Nat.le_of_ble_eq_true rfl) rfl dX6_spread_280 (fun J4 h4 => ?_)
                      obtain ⟨f4, rfl, hf4⟩ := h4
                      have hpq : p ≠ q := fun e => by
                        have := hbet a (by rw [← e]; exact hFp2)
                        omega
                      refine zJ_back (zle_r (zle_r (zle_r (zle_r (zle_r (zle_r (zle_n (zle_r (zle_r (zle_r (zle_n zle_0))))))))))) rfl (h283 _ (setO F2 q (a + c q)) (fun x y => S2 x y ∨ (x = a + c q ∧ y = q)) (sz2 + 1) ⟨sb_up (sb_zup (sb_zup x1 (by decide)) (by decide)) (by decide), ?_, ?_, ?_, ?_, hRR hdk3⟩ (by omega) ?_ none)
                      · rw [va_up_row (by decide), zup_same, upd_at]
                      · rw [show (45 : Nat) = 44 + 1 from rfl, va_up_same]
                        refine hpH_congr hf4 (fun w => ⟨fun h => ?_, fun ⟨a2, p2, h, e2⟩ => ?_⟩)
                        · rcases h with ⟨a2, p2, h, e2⟩ | h
                          · exact ⟨a2, p2, Or.inl h, e2⟩
                          · exact ⟨a + c q, q, Or.inr ⟨rfl, rfl⟩, h⟩
                        · rcases h with h | ⟨h1, h2⟩
                          · exact Or.inl ⟨a2, p2, h, e2⟩
                          · exact Or.inr (by rw [e2, h1, h2])
                      · intro z hz
                        rw [va_up_row (by decide), zup_row (by decide), zup_same]
                        by_cases e : z = q
                        · subst e; rw [upd_at]; simp [setO, enc]
                        · rw [upd_ne e, x4 z hz]; simp [setO, e]
                      · intro z hz
                        rw [va_up_row (by decide), zup_row (by decide), zup_row (by decide)]
                        by_cases e : z = q
                        · rw [e]; exact Or.inr h47
                        · simp only [setO, if_neg e]; exact x5 z hz
                      · simp [setO, hpq]; exact hFp2
                  refine zJ_aload_n dX6_spread_201 rfl ?_
                  refine zP_getr lf_X6_22 (zSt_ob hs 43 6 rfl) rfl (zSt_rf hs 43 5 47 rfl) dX6_spread_202 ?_
                  refine zJ_iload dX6_spread_205 rfl ?_
                  refine zP_iald (zSt_ar hs 47 64 rfl) (by first | assumption | with_reducible exact vp_in_nI (by omega) (by omega) | (simp (disch := omega) only [nI_add, pk_mul, pk_sub, pk_div, pk_rem, nI_clamp]; with_reducible exact vp_in_nI (by omega) (by omega))) dX6_spread_207 ?_
                  rw [nI_clamp (by omega)]
                  refine zJ_if_ne 226 dX6_spread_208 (by decide) (fun c208 => ?_) (fun c208 => ?_)
                  · skip
                    exact h226 J2 ⟨t1, t2, t3, t4, t5, t6⟩ ((t5 q hq64).resolve_left (fun z => c208 z.1))
                  · skip
                    refine zJ_aload_n dX6_spread_211 rfl ?_
                    refine zP_getr lf_X6_22 (zSt_ob hs 43 6 rfl) rfl (zSt_rf hs 43 5 47 rfl) dX6_spread_212 ?_
                    refine zJ_iload dX6_spread_215 rfl ?_
                    refine zJ_aload_n dX6_spread_217 rfl ?_
                    refine zJ_aload_n dX6_spread_218 rfl ?_
                    refine zJ_iload_n dX6_spread_219 rfl ?_
                    refine zJ_iload dX6_spread_220 rfl ?_
                    refine zP_callVi [_, _, _] _ lv_X6_178 (k_X6_priceOf (d := d - 1) (len := len) hl (by omega) hs hst hsN hn hq64 (by rw [u21]; exact hlen) hlaw.1 (by rw [u23]; exact fun i hi => by obtain ⟨-, dp, -, -, h9⟩ := hlaw; exact (h9 i hi).1)) (zSt_ob hs 43 6 rfl) rfl (by omega) (Nat.le_of_ble_eq_true rfl) rfl dX6_spread_222 ?_
                    rw [cst_sb t1 hsN hlaw, (hc q hq64).2.2]
                    refine zP_iast (zSt_ar hs 47 64 rfl) (by first | assumption | with_reducible exact vp_in_nI (by omega) (by omega) | (simp (disch := omega) only [nI_add, pk_mul, pk_sub, pk_div, pk_rem, nI_clamp]; with_reducible exact vp_in_nI (by omega) (by omega))) dX6_spread_225 ?_
                    refine zJ_eq rfl rfl (by rw [nI_clamp (by omega)]) (h226 (zup (va_up (va_up J2 22 _) 24 _) 47 q (nI (c q))) ⟨sb_zup (sb_up (sb_up t1 (by decide)) (by decide)) (by decide), ?_, ?_, ?_, ?_, t6⟩ ?_)
                    · rw [zup_row (by decide), va_up_row (by decide), va_up_row (by decide)]; exact t2
                    · rw [zup_row (by decide), va_up_row (by decide), va_up_row (by decide)]; exact t3
                    · intro z hz; rw [zup_row (by decide), va_up_row (by decide), va_up_row (by decide)]; exact t4 z hz
                    · intro z hz
                      rw [zup_same, va_up_row (by decide), va_up_row (by decide)]
                      by_cases e : z = q
                      · subst e; rw [upd_at]; exact Or.inr rfl
                      · rw [upd_ne e]; exact t5 z hz
                    · rw [zup_same, upd_at]
                · skip
                  refine zJ_goto 283 dX6_spread_198 (by decide) ?_
                  refine zJ_back (zle_r (zle_r (zle_r (zle_r (zle_r (zle_r (zle_n (zle_r (zle_r (zle_r (zle_n zle_0))))))))))) rfl (h283 J2 F2 S2 sz2 ⟨t1, t2, t3, t4, t5, dkK_R t6 (fun x y hx hy hwy had => ?_)⟩ (by omega) hFp2 none)
                  rcases had with h | ⟨h1, v', h2, h3⟩
                  · exact Or.inl h
                  · refine Or.inr ⟨h1, v', ?_, h3⟩
                    rcases Nat.lt_or_ge v' v with z | z
                    · exact z
                    · rw [show v' = v by omega, hnx] at h3
                      cases h3
                      simp [wlB, c195] at hwy
          refine zJ_iconst (v := nI 0) dX6_spread_156 rfl ?_
          refine zJ_istore dX6_spread_157 (Nat.le_of_ble_eq_true rfl) (by decide) ?_
          refine zJ_back (zle_r (zle_r (zle_r (zle_r (zle_r (zle_r (zle_n (zle_r (zle_r (zle_r (zle_n zle_0))))))))))) rfl (inner 4 0 (by omega) J1 F (fun x y => S x y ∧ ¬ (x = a ∧ y = p)) sz' ⟨⟨hsb1, q44, hhp2, hfar1, hprc1, dkK_R hdk2 (fun x y _ _ _ had => ?_)⟩, by omega, hFa⟩)
          rcases had with h | ⟨-, v', h2, -⟩
          · exact h
          · omega
        refine zJ_iload dX6_spread_107 rfl ?_
        refine zJ_iload dX6_spread_109 rfl ?_
        refine zJ_icmp_le 115 dX6_spread_111 (by decide) (fun c111 => ?_) (fun c111 => ?_)
        · skip
          refine zJ_iload dX6_spread_115 rfl ?_
          refine zJ_aload_n dX6_spread_117 rfl ?_
          refine zP_getr lf_X6_18 (zSt_ob hs 43 6 rfl) rfl (zSt_rf hs 43 4 46 rfl) dX6_spread_118 ?_
          refine zJ_iload dX6_spread_121 rfl ?_
          refine zP_iald (zSt_ar hs 46 64 rfl) (by first | assumption | with_reducible exact vp_in_nI (by omega) (by omega) | (simp (disch := omega) only [nI_add, pk_mul, pk_sub, pk_div, pk_rem, nI_clamp]; with_reducible exact vp_in_nI (by omega) (by omega))) dX6_spread_123 ?_
          rw [nI_clamp (by omega), hfar1 p hp64, hFp]
          refine zJ_icmp_le 130 dX6_spread_124 (by decide) (fun c124 => ?_) (fun c124 => ?_)
          · skip
            refine zJ_iload_n dX6_spread_130 rfl ?_
            refine zJ_if_ne 156 dX6_spread_131 (by decide) (fun c131 => ?_) (fun c131 => ?_)
            · skip
              have hFa : F p = some a := by rw [hFp]; congr 1; have := (nI_leI (by omega) (by omega)).mp c124; omega
              exact zJ_back (zle_r (zle_r (zle_r (zle_r (zle_r (zle_r (zle_n (zle_r (zle_r (zle_n (zle_n zle_0))))))))))) rfl (h156 hFa Bd hB hw)
            · skip
              refine zJ_iload dX6_spread_134 rfl ?_
              refine zJ_if_le 156 dX6_spread_136 (by decide) (fun c136 => ?_) (fun c136 => ?_)
              · skip
                have hFa : F p = some a := by rw [hFp]; congr 1; have := (nI_leI (by omega) (by omega)).mp c124; omega
                exact zJ_back (zle_r (zle_r (zle_r (zle_r (zle_r (zle_r (zle_n (zle_r (zle_r (zle_n (zle_n zle_0))))))))))) rfl (h156 hFa Bd hB hw)
              · skip
                refine zJ_aload_n dX6_spread_139 rfl ?_
                refine zP_getr lf_X6_28 (zSt_ob hs 43 6 rfl) rfl (zSt_rf hs 43 0 3 rfl) dX6_spread_140 ?_
                refine zJ_iload_n dX6_spread_143 rfl ?_
                refine zJ_iload dX6_spread_144 rfl ?_
                refine zP_callVi [_, _] _ lv_X6_172 (k_X0_hasPin (d := d - 1) hl (by omega) (zSt_board hs) hp64) (zSt_ob hs 3 0 rfl) rfl (by omega) (Nat.le_of_ble_eq_true rfl) rfl dX6_spread_146 ?_
                refine zJ_if_eq 156 dX6_spread_149 (by decide) (fun c149 => ?_) (fun c149 => ?_)
                · replace c149 := zb0.mp c149
                  have hFa : F p = some a := by rw [hFp]; congr 1; have := (nI_leI (by omega) (by omega)).mp c124; omega
                  exact zJ_back (zle_r (zle_r (zle_r (zle_r (zle_r (zle_r (zle_n (zle_r (zle_r (zle_n (zle_n zle_0))))))))))) rfl (h156 hFa Bd hB hw)
                · replace c149 := zb1.mp c149
                  refine zJ_iload dX6_spread_152 rfl ?_
                  refine zJ_istore dX6_spread_154 (Nat.le_of_ble_eq_true rfl) (by decide) ?_
                  have hFa : F p = some a := by rw [hFp]; congr 1; have := (nI_leI (by omega) (by omega)).mp c124; omega
                  have ha0 : 0 < a := by
                    rcases Nat.eq_zero_or_pos a with e | e
                    · exact absurd (by rw [e]; decide) c136
                    · exact e
                  have hwf : whole = false := zb0.mp c131
                  have hDp := dk_pop hc1 hF (dkK_I hdk) hS hmn hFa
                  rw [show (3 + 5 : Nat) = 8 from rfl, w8] at c149
                  exact zJ_back (zle_r (zle_r (zle_r (zle_r (zle_r (zle_r (zle_n (zle_r (zle_r (zle_n (zle_n zle_0))))))))))) rfl (h156 hFa (some a) (fun b hb => by cases hb; exact ⟨ha0, ha64, p, hp64, c149, hDp⟩) (fun h => by rw [hwf] at h; cases h))
          · skip
            refine zJ_goto 289 dX6_spread_127 (by decide) ?_
            have hlt : a' < a := Nat.not_le.mp (fun z => c124 (nI_le z (by omega)))
            exact zJ_back (zle_r (zle_r (zle_r (zle_r (zle_r (zle_r (zle_n (zle_n (zle_n (zle_n (zle_n zle_0))))))))))) rfl (h289 J1 F P (fun x y => S x y ∧ ¬ (x = a ∧ y = p)) sz' Bd ⟨hsb1, q44, hhp2, hfar1, hprc1, dkK_stale hdk hFp hlt⟩ (by omega) hB hw)
        · skip
          refine zJ_vret rfl dX6_spread_114 ?_
          obtain ⟨b, hBd, hlt⟩ : ∃ b, Bd = some b ∧ b < a := by
            cases hBd : Bd with
            | none =>
              rw [hBd] at c111
              refine absurd (Int32.le_iff_toInt_le.mpr ?_) c111
              rw [nI_toInt (by omega), show (enc none).toInt = 1000000 by decide]
              omega
            | some b =>
              rw [hBd] at c111
              exact ⟨b, rfl, Nat.not_le.mp (fun z => c111 (nI_le z (by have := (hB b hBd).2.1; omega)))⟩
          refine ⟨rfl, J1, rfl, ?_⟩
          have hq := sp_end (m := some a) hc1 hF hsp (fun a2 p2 h2 => ⟨a, rfl, hmn a2 p2 h2⟩) (fun k hk => by cases hk; exact ⟨b, hBd, hlt⟩) (fun b2 hb2 => ⟨(hB b2 hb2).1, (hB b2 hb2).2.2⟩) hw
          obtain ⟨-, F9, Bd9, y0, y1, y2, y3, y4⟩ := hq
          exact ⟨hsb1, F9, Bd9, fun q hq => by rw [q47]; exact y0 q hq, fun q hq => by rw [q46]; exact y1 q hq, y2, y3, y4⟩
  have init : ∀ m p, p + m = 64 → ∀ (J : zI) (sz : Nat), (sb I J ∧ J 44 1 = nI sz ∧ sz = cB (tin (I (s + 1)) n) p ∧ hpH (J 45) sz (fun v => ∃ q, q < p ∧ tin (I (s + 1)) n q = true ∧ v = nI q) ∧ (∀ q, q < p → J 46 q = enc (if tin (I (s + 1)) n q then some 0 else none)) ∧ J 47 = I 47) → zJ l Xi mX6_spread d 0 0 10 [some (.ref 43), some (.ref s), some (.int (nI n)), some (.int (if whole then 1 else 0)), some (.int (nI p)), none, none, none, none, none, none] [] (J, g) (fun r' h' => r' = .inl none ∧ ∃ I', h' = (I', g) ∧ spQ I I' s n c D whole) := by
    intro m
    induction m with
    | zero =>
      intro p hp J sz hI
      obtain rfl : p = 64 := by omega
      refine zJ_iload dX6_spread_10 rfl ?_
      refine zJ_bipush (v := nI 64) dX6_spread_12 rfl ?_
      refine zJ_icmp_ge 59 dX6_spread_14 (by decide) (fun _ => ?_) (fun c14 => absurd (nI_le (by omega) (by omega)) c14)
      refine zJ_ldc (v := 1000000) lk_X6_159 dX6_spread_59 ?_
      refine zJ_istore dX6_spread_61 (Nat.le_of_ble_eq_true rfl) (by decide) ?_
      refine zJ_iconst (v := nI 0) dX6_spread_63 rfl ?_
      refine zJ_istore dX6_spread_64 (Nat.le_of_ble_eq_true rfl) (by decide) ?_
      obtain ⟨h1, h2, h3, h4, h5, h6⟩ := hI
      refine zJ_back (zle_r (zle_r (zle_r (zle_r (zle_r (zle_r (zle_n (zle_n (zle_n (zle_n (zle_n zle_0))))))))))) rfl (main 320 0 (by omega) J (fun q => if tin (I (s + 1)) n q then some 0 else none) (fun _ => false) (fun a q => a = 0 ∧ q < 64 ∧ tin (I (s + 1)) n q = true) sz none ⟨⟨h1, h2, hpH_congr h4 (fun v => ⟨fun ⟨q, hq, hT, e⟩ => ⟨0, q, ⟨rfl, hq, hT⟩, by rw [e, Nat.zero_mul, Nat.zero_add]⟩, fun ⟨a, q, ⟨ha, hq, hT⟩, e⟩ => ⟨q, hq, hT, by rw [e, ha, Nat.zero_mul, Nat.zero_add]⟩⟩), h5, fun q hq => by rw [h6]; rcases hpr q hq with h9 | h9; exact Or.inl ⟨h9, by by_cases e9 : tin (I (s + 1)) n q = true; exact Or.inr e9; exact Or.inl (if_neg e9)⟩; exact Or.inr h9, dkK_0 hF⟩, by omega, fun b hb => (by cases hb), fun _ => rfl⟩)
    | succ m ih =>
      intro p hp J sz hI
      obtain ⟨h1, h2, h3, h4, h5, h6⟩ := hI
      have hcT := cB_le (f := tin (I (s + 1)) n) (n := p)
      obtain ⟨w1, w4, w11, w8, w21, w23⟩ := row J h1
      refine zJ_iload dX6_spread_10 rfl ?_
      refine zJ_bipush (v := nI 64) dX6_spread_12 rfl ?_
      refine zJ_icmp_ge 59 dX6_spread_14 (by decide) (fun c14 => absurd c14 (nI_ge (by omega) (by omega))) (fun _ => ?_)
      refine zJ_aload_n dX6_spread_17 rfl ?_
      refine zP_getr lf_X6_18 (zSt_ob hs 43 6 rfl) rfl (zSt_rf hs 43 4 46 rfl) dX6_spread_18 ?_
      refine zJ_iload dX6_spread_21 rfl ?_
      refine zJ_ldc (v := 1000000) lk_X6_159 dX6_spread_23 ?_
      refine zP_iast (zSt_ar hs 46 64 rfl) (by first | assumption | with_reducible exact vp_in_nI (by omega) (by omega) | (simp (disch := omega) only [nI_add, pk_mul, pk_sub, pk_div, pk_rem, nI_clamp]; with_reducible exact vp_in_nI (by omega) (by omega))) dX6_spread_25 ?_
      rw [nI_clamp (by omega)]
      refine zJ_aload_n dX6_spread_26 rfl ?_
      refine zJ_iload_n dX6_spread_27 rfl ?_
      refine zJ_iload dX6_spread_28 rfl ?_
      refine zP_callVi [_, _] _ lv_X6_127 (k_has (d := d - 1) hl (by omega) hst hn (by omega)) hst.1 rfl (by omega) (Nat.le_of_ble_eq_true rfl) rfl dX6_spread_30 ?_
      rw [hasB_tin, zup_row (by omega), w1]
      refine zJ_if_eq 53 dX6_spread_33 (by decide) (fun c33 => ?_) (fun c33 => ?_)
      · replace c33 := zb0.mp c33
        refine zJ_iinc1 dX6_spread_53 rfl (by decide) ?_
        refine zJ_goto 10 dX6_spread_56 (by decide) ?_
        refine ih (p + 1) (by omega) _ sz ⟨sb_zup h1 (by decide), ?_, ?_, ?_, fun q hq => ?_, ?_⟩
        · rw [zup_row (by decide)]; exact h2
        · simp [cB, c33]; exact h3
        · rw [zup_row (by decide)]
          exact hpH_congr h4 (fun v => ⟨fun ⟨q, hq, hT, e⟩ => ⟨q, by omega, hT, e⟩, fun ⟨q, hq, hT, e⟩ => ⟨q, Nat.lt_of_not_le (fun z => by rw [show q = p by omega, c33] at hT; cases hT), hT, e⟩⟩)
        · rw [zup_same]
          by_cases e : q = p
          · subst e; rw [upd_at, c33]; rfl
          · rw [upd_ne e]; exact h5 q (by omega)
        · rw [zup_row (by decide)]; exact h6
      · replace c33 := zb1.mp c33
        refine zJ_aload_n dX6_spread_36 rfl ?_
        refine zP_getr lf_X6_18 (zSt_ob hs 43 6 rfl) rfl (zSt_rf hs 43 4 46 rfl) dX6_spread_37 ?_
        refine zJ_iload dX6_spread_40 rfl ?_
        refine zJ_iconst (v := nI 0) dX6_spread_42 rfl ?_
        refine zP_iast (zSt_ar hs 46 64 rfl) (by first | assumption | with_reducible exact vp_in_nI (by omega) (by omega) | (simp (disch := omega) only [nI_add, pk_mul, pk_sub, pk_div, pk_rem, nI_clamp]; with_reducible exact vp_in_nI (by omega) (by omega))) dX6_spread_43 ?_
        rw [nI_clamp (by omega)]
        refine zJ_aload_n dX6_spread_44 rfl ?_
        refine zP_getr lf_X6_12 (zSt_ob hs 43 6 rfl) rfl (zSt_rf hs 43 3 44 rfl) dX6_spread_45 ?_
        refine zJ_iload dX6_spread_48 rfl ?_
        have y44 : zup (zup J 46 p 1000000) 46 p (nI 0) 44 1 = nI sz := by rw [zup_row (by decide), zup_row (by decide)]; exact h2
        have y45 : hpH (zup (zup J 46 p 1000000) 46 p (nI 0) (44 + 1)) sz (fun v => ∃ q, q < p ∧ tin (I (s + 1)) n q = true ∧ v = nI q) := by rw [zup_row (by decide), zup_row (by decide)]; exact h4
        have hfr : ¬ ∃ q, q < p ∧ tin (I (s + 1)) n q = true ∧ nI p = nI q := fun ⟨q, hq, _, e⟩ => by have := (nI_eq (by omega) (by omega)).mp e; omega
        refine zP_ecallVv [_] _ lv_X6_160 (k_X3_push (d := d - 1) hl (by omega) (zSt_heapR hs) y44 (by omega) y45 hfr) (zSt_ob hs 44 3 rfl) rfl (by omega) (Nat.le_of_ble_eq_true rfl) rfl dX6_spread_50 (fun J4 h7 => ?_)
        refine zJ_iinc1 dX6_spread_53 rfl (by decide) ?_
        refine zJ_goto 10 dX6_spread_56 (by decide) ?_
        obtain ⟨f, rfl, hf⟩ := h7
        refine ih (p + 1) (by omega) _ (sz + 1) ⟨sb_up (sb_zup (sb_zup (sb_zup h1 (by decide)) (by decide)) (by decide)) (by decide), ?_, ?_, ?_, fun q hq => ?_, ?_⟩
        · rw [va_up_row (by decide), zup_same, upd_at]
        · simp [cB, c33]; exact h3
        · rw [show (45 : Nat) = 44 + 1 from rfl, va_up_same]
          refine hpH_congr hf (fun v => ⟨fun h => ?_, fun ⟨q, hq, hT, e⟩ => ?_⟩)
          · rcases h with ⟨q, hq, hT, e⟩ | e
            · exact ⟨q, by omega, hT, e⟩
            · exact ⟨p, by omega, c33, e⟩
          · by_cases e2 : q = p
            · exact Or.inr (by rw [e, e2])
            · exact Or.inl ⟨q, by omega, hT, e⟩
        · rw [va_up_row (by decide), zup_row (by decide), zup_same]
          by_cases e : q = p
          · subst e; rw [upd_at, c33]; rfl
          · rw [upd_ne e, zup_same, upd_ne e]; exact h5 q (by omega)
        · rw [va_up_row (by decide), zup_row (by decide), zup_row (by decide), zup_row (by decide)]; exact h6
  refine zJ_aload_n dX6_spread_0 rfl ?_
  refine zP_getr lf_X6_12 (zSt_ob hs 43 6 rfl) rfl (zSt_rf hs 43 3 44 rfl) dX6_spread_1 ?_
  refine zP_callVv [] _ lv_X6_156 (k_X3_clear (d := d - 1) hl (by omega) (zSt_heapR hs)) (zSt_ob hs 44 3 rfl) rfl (by omega) (Nat.le_of_ble_eq_true rfl) rfl dX6_spread_4 ?_
  refine zJ_iconst (v := nI 0) dX6_spread_7 rfl ?_
  refine zJ_istore dX6_spread_8 (Nat.le_of_ble_eq_true rfl) (by decide) ?_
  refine init 64 0 (by omega) (zup I 44 1 0) 0 ⟨sb_zup sb_rfl (by decide), ?_, rfl, ?_, fun q hq => by omega, ?_⟩
  · rw [zup_same, upd_at]; rfl
  · exact ⟨fun j h0 hj => by omega, fun v => ⟨fun ⟨q, hq, _⟩ => by omega, fun ⟨q, hq, _⟩ => by omega⟩, fun i j hi => by omega⟩
  · rw [zup_row (by decide)]
end ZSpread2
