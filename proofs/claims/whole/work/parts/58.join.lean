/-! ===== Joiner.stepOn ===== -/
section ZJoin3
variable {l : Launch} {Xi : zXi} {d : Nat} {I : zI} {g : zG}
def sbJ (I J : zI) : Prop := ∀ a, a ≠ 50 → a ≠ 51 → a ≠ 52 → J a = I a
theorem sbJ_rfl : sbJ I I := fun _ _ _ _ => rfl
theorem sbJ_trans {J K : zI} (h : sbJ I J) (h2 : sbJ J K) : sbJ I K := fun a q1 q2 q3 => (h2 a q1 q2 q3).trans (h a q1 q2 q3)
theorem sbJ_up {J : zI} {b : Nat} {f : Nat → Int32} (h : sbJ I J) (hb : b = 50 ∨ b = 51 ∨ b = 52) : sbJ I (va_up J b f) := fun a q1 q2 q3 => (va_up_row (by omega)).trans (h a q1 q2 q3)
theorem sbJ_zup {J : zI} {b j : Nat} {x : Int32} (h : sbJ I J) (hb : b = 50 ∨ b = 51 ∨ b = 52) : sbJ I (zup J b j x) := sbJ_up h hb
theorem sJ_of {I J : zI} {tab : Nat → Nat → Option Nat} (h : sJ I tab) (e : J 52 = I 52) : sJ J tab := fun s p hs hp => by rw [e]; exact h s p hs hp
theorem ts_same {tab : Nat → Nat → Option Nat} {set p : Nat} {row : Nat → Option Nat} : tset tab set row set p = row p := by unfold tset; rw [if_pos rfl]
theorem sJ_put {I : zI} {tab : Nat → Nat → Option Nat} {set q v : Nat} {F : Nat → Option Nat} (hset : set < 8) (hq : q < 64) (h : sJ I (tset tab set F)) : sJ (zup I 52 (set * 64 + q) (nI v)) (tset tab set (setO F q v)) := fun s p hs hp => by
  rw [zup_same]
  by_cases e4 : s * 64 + p = set * 64 + q
  · obtain ⟨e5, e6⟩ : s = set ∧ p = q := by omega
    rw [e4, upd_at, e5, e6, ts_same]
    simp [setO, ej]
  · rw [upd_ne e4, h s p hs hp]
    unfold tset
    by_cases e : s = set
    · rw [if_pos e, if_pos e]
      have : p ≠ q := fun z => e4 (by rw [e, z])
      simp [setO, this]
    · rw [if_neg e, if_neg e]
def jI (I J : zI) (tab : Nat → Nat → Option Nat) (set : Nat) (a : Nat → Option Nat) (wl : Nat → Bool) (D F : Nat → Option Nat) (P : Nat → Bool) (S R : Nat → Nat → Prop) (M sz : Nat) : Prop :=
  sbJ I J ∧ J 50 1 = nI sz ∧ hpH (J 51) sz (keyS S) ∧ sJ J (tset tab set F) ∧ djK a wl D F P S R M
set_option maxHeartbeats 4000000 in
theorem k_X4_stepOn (hl : l.stackTraces = false) (hd : 2 ≤ d) (hs : zSt g) {s set M : Nat} {tab : Nat → Nat → Option Nat} {a D : Nat → Option Nat} (hst : zK g s 8 zLt_State) (hsN : 60 < s) (hset : set < 8) (hb : bok (I 11)) (hT : sJ I (tset tab set a)) (hM : ∀ p v, p < 64 → a p = some v → v ≤ M) (hM9 : M + 64 ≤ 999) (hF : FPj a (wlB (I (s + 4))) (adB (I 11)) D) : zEv l Xi mX4_stepOn d [.ref 49, .ref s, .int (nI set)] I g (fun J => sbJ I J ∧ sJ J (tset tab set D)) := by
  refine zC_of hl rfl rfl rfl (Nat.le_of_ble_eq_true rfl) (zav_r (zSt_ob hs 49 4 rfl).1 (zav_r hst.1.1 (zav_i zav_0))) ?_
  have row : ∀ J, sbJ I J → J (s + 4) = I (s + 4) ∧ J 11 = I 11 := fun J h => ⟨h _ (by omega) (by omega) (by omega), h _ (by omega) (by omega) (by omega)⟩
  have main : ∀ m i, i + m = 320 → ∀ (J : zI) (F : Nat → Option Nat) (P : Nat → Bool) (S : Nat → Nat → Prop) (sz : Nat), (jI I J tab set a (wlB (I (s + 4))) D F P S (adB (I 11)) M sz ∧ sz + i ≤ 64 + 4 * cB P 64) → zJ l Xi mX4_stepOn d 0 0 68 [some (.ref 49), some (.ref s), some (.int (nI set)), some (.int (nI (set * 64))), some (.int (nI i)), none, none, none, none, none] [] (J, g) (fun r' h' => r' = .inl none ∧ ∃ I', h' = (I', g) ∧ sbJ I I' ∧ sJ I' (tset tab set D)) := by
    intro m
    induction m with
    | zero =>
      intro i hp J F P S sz hI
      obtain rfl : i = 320 := by omega
      refine zJ_iload dX4_stepOn_68 rfl ?_
      refine zJ_sipush (v := nI 320) dX4_stepOn_70 rfl ?_
      refine zJ_icmp_ge 221 dX4_stepOn_73 (by decide) (fun _ => ?_) (fun c73 => absurd (nI_le (by omega) (by omega)) c73)
      refine zJ_vret rfl dX4_stepOn_221 ?_
      obtain ⟨⟨h1, h2, h3, h4, h5⟩, hcnt⟩ := hI
      have hcP := cB_le (f := P) (n := 64)
      have hS0 : ∀ x p, ¬ S x p := fun x p hS => by
        obtain ⟨k, hk, -⟩ := (h3.2.1 (nI (x * 64 + p))).mp ⟨x, p, hS, rfl⟩
        omega
      refine ⟨rfl, J, rfl, h1, fun s2 p hs2 hp => ?_⟩
      rw [h4 s2 p hs2 hp]
      unfold tset
      split
      · rw [dj_end hF h5 hS0 hp]
      · rfl
    | succ m ih =>
      intro i hp J F P S sz hI
      obtain ⟨⟨hsb, hJsz, hhp, hsteps, hdk⟩, hcnt⟩ := hI
      obtain ⟨r4, r11⟩ := row J hsb
      have hcP := cB_le (f := P) (n := 64)
      refine zJ_iload dX4_stepOn_68 rfl ?_
      refine zJ_sipush (v := nI 320) dX4_stepOn_70 rfl ?_
      refine zJ_icmp_ge 221 dX4_stepOn_73 (by decide) (fun c73 => absurd c73 (nI_ge (by omega) (by omega))) (fun _ => ?_)
      refine zJ_aload_n dX4_stepOn_76 rfl ?_
      refine zP_getr lf_X4_12 (zSt_ob hs 49 4 rfl) rfl (zSt_rf hs 49 1 50 rfl) dX4_stepOn_77 ?_
      refine zP_callVi [] _ lv_X4_58 (k_isEmpty (d := d - 1) hl (by omega) (zSt_heapJ hs)) (zSt_ob hs 50 3 rfl) rfl (by omega) (Nat.le_of_ble_eq_true rfl) rfl dX4_stepOn_80 ?_
      refine zJ_if_ne 221 dX4_stepOn_83 (by decide) (fun c83 => ?_) (fun c83 => ?_)
      · replace c83 := zb1.mp c83
        refine zJ_vret rfl dX4_stepOn_221 ?_
        have hJ0 : J 50 1 = 0 := of_decide_eq_true c83
        have hsz0 : sz = 0 := by
          rw [hJsz] at hJ0
          rcases Nat.eq_zero_or_pos sz with e | e
          · exact e
          · exact absurd hJ0 (nI_ne0 e (by omega))
        have hS0 : ∀ x p, ¬ S x p := fun x p hS => by
          obtain ⟨k, hk, -⟩ := (hhp.2.1 (nI (x * 64 + p))).mp ⟨x, p, hS, rfl⟩
          omega
        refine ⟨rfl, J, rfl, hsb, fun s2 p hs2 hp => ?_⟩
        rw [hsteps s2 p hs2 hp]
        unfold tset
        split
        · rw [dj_end hF hdk hS0 hp]
        · rfl
      · replace c83 := zb0.mp c83
        have hJ0 : ¬ J 50 1 = 0 := of_decide_eq_false c83
        have hszp : 0 < sz := by rcases Nat.eq_zero_or_pos sz with e | e; exact absurd (by rw [hJsz, e]; rfl) hJ0; exact e
        obtain ⟨sz', rfl⟩ : ∃ k, sz = k + 1 := ⟨sz - 1, by omega⟩
        refine zJ_aload_n dX4_stepOn_86 rfl ?_
        refine zP_getr lf_X4_12 (zSt_ob hs 49 4 rfl) rfl (zSt_rf hs 49 1 50 rfl) dX4_stepOn_87 ?_
        refine zP_ecallVi [] _ lv_X4_62 (k_X3_pop (d := d - 1) hl (by omega) (zSt_heapJ hs) hJsz (by omega) hhp) (zSt_ob hs 50 3 rfl) rfl (by omega) (Nat.le_of_ble_eq_true rfl) rfl dX4_stepOn_90 (fun y J1 hx => ?_)
        obtain ⟨⟨x, p, hS, rfl⟩, hmin, f, rfl, hhp1⟩ := hx
        obtain ⟨hp64, hx9, x', hFp, hxle⟩ := hdk.2.2.2.1 x p hS
        have hmn : ∀ a2 p2, S a2 p2 → x ≤ a2 := fun a2 p2 h2 => by have h3 := hmin _ ⟨a2, p2, h2, rfl⟩; have h4 := hdk.2.2.2.1 a2 p2 h2; rw [nI_toInt (by omega), nI_toInt (by omega)] at h3; omega
        have hkey : ∀ v, (keyS S v ∧ v ≠ nI (x * 64 + p)) ↔ keyS (fun u y => S u y ∧ ¬ (u = x ∧ y = p)) v := fun v => ⟨fun ⟨⟨a2, p2, h2, e2⟩, hne⟩ => ⟨a2, p2, ⟨h2, fun z => hne (by rw [e2, z.1, z.2])⟩, e2⟩, fun ⟨a2, p2, ⟨h2, hne⟩, e2⟩ => ⟨⟨a2, p2, h2, e2⟩, fun z => hne (by have h4 := hdk.2.2.2.1 a2 p2 h2; exact key_inj (by omega) h4.1 (by omega) hp64 (e2.symm.trans z))⟩⟩
        refine zJ_istore dX4_stepOn_93 (Nat.le_of_ble_eq_true rfl) (by decide) ?_
        refine zJ_iload dX4_stepOn_95 rfl ?_
        refine zJ_bipush (v := nI 64) dX4_stepOn_97 rfl ?_
        refine zJ_irem dX4_stepOn_99 (by decide) ?_
        rw [pk_rem (by omega) (by omega) (by omega), show (x * 64 + p) % 64 = p by omega]
        refine zJ_istore dX4_stepOn_100 (Nat.le_of_ble_eq_true rfl) (by decide) ?_
        refine zJ_iload dX4_stepOn_102 rfl ?_
        refine zJ_bipush (v := nI 64) dX4_stepOn_104 rfl ?_
        refine zJ_idiv dX4_stepOn_106 (by decide) ?_
        rw [pk_div (by omega) (by omega) (by omega), show (x * 64 + p) / 64 = x by omega]
        refine zJ_iconst (v := nI 1) dX4_stepOn_107 rfl ?_
        refine zJ_iadd dX4_stepOn_108 ?_
        rw [nI_add]
        refine zJ_istore dX4_stepOn_109 (Nat.le_of_ble_eq_true rfl) (by decide) ?_
        refine zJ_iconst (v := nI 0) dX4_stepOn_111 rfl ?_
        refine zJ_istore dX4_stepOn_112 (Nat.le_of_ble_eq_true rfl) (by decide) ?_
        obtain ⟨J1, hJ1⟩ : ∃ K, K = va_up (zup J 50 1 (nI sz')) (50 + 1) f := ⟨_, rfl⟩
        rw [← hJ1]
        have q51 : J1 51 = f := by rw [hJ1]; exact va_up_same
        have q50 : J1 50 1 = nI sz' := by rw [hJ1, va_up_row (by decide), zup_same, upd_at]
        have q52 : J1 52 = J 52 := by rw [hJ1, va_up_row (by decide), zup_row (by decide)]
        have hsb1 : sbJ I J1 := by rw [hJ1]; exact sbJ_up (sbJ_zup hsb (by decide)) (by decide)
        have hst1 : sJ J1 (tset tab set F) := sJ_of hsteps q52
        have hhp2 : hpH (J1 51) sz' (keyS (fun u y => S u y ∧ ¬ (u = x ∧ y = p))) := by rw [q51]; exact hpH_congr hhp1 hkey
        have h215 : ∀ (J2 : zI) (F2 : Nat → Option Nat) (P2 : Nat → Bool) (S2 : Nat → Nat → Prop) (sz2 : Nat), jI I J2 tab set a (wlB (I (s + 4))) D F2 P2 S2 (adB (I 11)) M sz2 → sz2 + (i + 1) ≤ 64 + 4 * cB P2 64 → zJ l Xi mX4_stepOn d 0 0 215 [some (.ref 49), some (.ref s), some (.int (nI set)), some (.int (nI (set * 64))), some (.int (nI i)), none, none, none, none, none] [] (J2, g) (fun r' h' => r' = .inl none ∧ ∃ I', h' = (I', g) ∧ sbJ I I' ∧ sJ I' (tset tab set D)) := by
          intro J2 F2 P2 S2 sz2 k1 k2
          refine zJ_iinc1 dX4_stepOn_215 rfl (by decide) ?_
          refine zJ_goto 68 dX4_stepOn_218 (by decide) ?_
          exact ih (i + 1) (by omega) J2 F2 P2 S2 sz2 ⟨k1, k2⟩
        rcases Nat.lt_or_ge x' x with hlt | hge
        · have v1 : J1 52 (set * 64 + p) = nI x' := by rw [hst1 set p hset hp64, ts_same, hFp]; rfl
          refine zJ_iload dX4_stepOn_114 rfl ?_
          refine zJ_iconst (v := nI 4) dX4_stepOn_116 rfl ?_
          refine zJ_icmp_ge 215 dX4_stepOn_117 (by decide) (fun c117 => absurd c117 (by decide)) (fun _ => ?_)
          refine zJ_iload dX4_stepOn_120 rfl ?_
          refine zJ_iconst (v := nI 1) dX4_stepOn_122 rfl ?_
          refine zJ_isub dX4_stepOn_123 ?_
          refine zJ_aload_n dX4_stepOn_124 rfl ?_
          refine zP_getr lf_X4_18 (zSt_ob hs 49 4 rfl) rfl (zSt_rf hs 49 2 52 rfl) dX4_stepOn_125 ?_
          refine zJ_iload_n dX4_stepOn_128 rfl ?_
          refine zJ_iload dX4_stepOn_129 rfl ?_
          refine zJ_iadd dX4_stepOn_131 ?_
          refine zP_iald (zSt_ar hs 52 512 rfl) (by first | assumption | with_reducible exact vp_in_nI (by omega) (by omega) | (simp (disch := omega) only [nI_add, pk_mul, pk_sub, pk_div, pk_rem, nI_clamp]; with_reducible exact vp_in_nI (by omega) (by omega))) dX4_stepOn_132 ?_
          simp (disch := omega) only [nI_add, nI_clamp]
          rw [v1, pk_sub (by omega), show x + 1 - 1 = x from rfl]
          refine zJ_icmp_ne 215 dX4_stepOn_133 (by decide) (fun _ => ?_) (fun c133 => absurd c133 (fun z => by have := (nI_eq (by omega) (by omega)).mp z; omega))
          exact zJ_back (zle_r (zle_r (zle_r (zle_r (zle_r (zle_n (zle_n (zle_n (zle_n (zle_n zle_0)))))))))) rfl (h215 J1 F P _ sz' ⟨hsb1, q50, hhp2, hst1, djK_stale hdk hFp hlt⟩ (by omega))
        · obtain rfl : x' = x := by omega
          have hDp := dj_pop hF hdk hS hmn hFp
          obtain ⟨hPp, hdk2, hxM⟩ := djK_take hdk hS hFp hDp
          have hcP2 := cB_set (f := P) hp64 hPp
          have hcP3 := cB_le (f := setB P p) (n := 64)
          have hPs : setB P p p = true := by simp [setB]
          have inner : ∀ m v, v + m = 4 → ∀ (J2 : zI) (F2 : Nat → Option Nat) (S2 : Nat → Nat → Prop) (sz2 : Nat), (jI I J2 tab set a (wlB (I (s + 4))) D F2 (setB P p) S2 (fun u y => (adB (I 11) u y ∧ u ≠ p) ∨ (u = p ∧ ∃ v', v' < v ∧ unI (I 11 (p * 4 + v')) = some y)) M sz2 ∧ sz2 + (i + 1) ≤ 64 + 4 * cB P 64 + v ∧ F2 p = some x') → zJ l Xi mX4_stepOn d 0 0 114 [some (.ref 49), some (.ref s), some (.int (nI set)), some (.int (nI (set * 64))), some (.int (nI i)), none, some (.int (nI p)), some (.int (nI (x' + 1))), some (.int (nI v)), none] [] (J2, g) (fun r' h' => r' = .inl none ∧ ∃ I', h' = (I', g) ∧ sbJ I I' ∧ sJ I' (tset tab set D)) := by
            intro m
            induction m with
            | zero =>
              intro v hp J2 F2 S2 sz2 hI
              obtain rfl : v = 4 := by omega
              refine zJ_iload dX4_stepOn_114 rfl ?_
              refine zJ_iconst (v := nI 4) dX4_stepOn_116 rfl ?_
              refine zJ_icmp_ge 215 dX4_stepOn_117 (by decide) (fun _ => ?_) (fun c117 => absurd (nI_le (by omega) (by omega)) c117)
              obtain ⟨⟨t1, t2, t3, t4, t6⟩, hcnt2, hFp2⟩ := hI
              refine zJ_back (zle_r (zle_r (zle_r (zle_r (zle_r (zle_n (zle_n (zle_n (zle_n (zle_n zle_0)))))))))) rfl (h215 J2 F2 (setB P p) S2 sz2 ⟨t1, t2, t3, t4, djK_R t6 (fun x y hx hy hwy had => ?_)⟩ (by omega))
              by_cases e : x = p
              · subst e; exact Or.inr ⟨rfl, had⟩
              · exact Or.inl ⟨had, e⟩
            | succ m ih =>
              intro v hp J2 F2 S2 sz2 hI
              obtain ⟨⟨t1, t2, t3, t4, t6⟩, hcnt2, hFp2⟩ := hI
              obtain ⟨u4, u11⟩ := row J2 t1
              have v1 : J2 52 (set * 64 + p) = nI x' := by rw [t4 set p hset hp64, ts_same, hFp2]; rfl
              refine zJ_iload dX4_stepOn_114 rfl ?_
              refine zJ_iconst (v := nI 4) dX4_stepOn_116 rfl ?_
              refine zJ_icmp_ge 215 dX4_stepOn_117 (by decide) (fun c117 => absurd c117 (nI_ge (by omega) (by omega))) (fun _ => ?_)
              refine zJ_iload dX4_stepOn_120 rfl ?_
              refine zJ_iconst (v := nI 1) dX4_stepOn_122 rfl ?_
              refine zJ_isub dX4_stepOn_123 ?_
              refine zJ_aload_n dX4_stepOn_124 rfl ?_
              refine zP_getr lf_X4_18 (zSt_ob hs 49 4 rfl) rfl (zSt_rf hs 49 2 52 rfl) dX4_stepOn_125 ?_
              refine zJ_iload_n dX4_stepOn_128 rfl ?_
              refine zJ_iload dX4_stepOn_129 rfl ?_
              refine zJ_iadd dX4_stepOn_131 ?_
              refine zP_iald (zSt_ar hs 52 512 rfl) (by first | assumption | with_reducible exact vp_in_nI (by omega) (by omega) | (simp (disch := omega) only [nI_add, pk_mul, pk_sub, pk_div, pk_rem, nI_clamp]; with_reducible exact vp_in_nI (by omega) (by omega))) dX4_stepOn_132 ?_
              simp (disch := omega) only [nI_add, nI_clamp]
              rw [v1, pk_sub (by omega), show x' + 1 - 1 = x' from rfl]
              refine zJ_icmp_ne 215 dX4_stepOn_133 (by decide) (fun c133 => absurd rfl c133) (fun _ => ?_)
              refine zJ_aload_n dX4_stepOn_136 rfl ?_
              refine zP_getr lf_X4_22 (zSt_ob hs 49 4 rfl) rfl (zSt_rf hs 49 0 3 rfl) dX4_stepOn_137 ?_
              refine zP_getr lf_X4_66 (zSt_ob hs 3 0 rfl) rfl (zSt_rf hs 3 11 11 rfl) dX4_stepOn_140 ?_
              refine zJ_iload dX4_stepOn_143 rfl ?_
              refine zJ_iconst (v := nI 4) dX4_stepOn_145 rfl ?_
              refine zJ_imul dX4_stepOn_146 ?_
              refine zJ_iload dX4_stepOn_147 rfl ?_
              refine zJ_iadd dX4_stepOn_149 ?_
              refine zP_iald (zSt_ar hs 11 256 rfl) (by first | assumption | with_reducible exact vp_in_nI (by omega) (by omega) | (simp (disch := omega) only [nI_add, pk_mul, pk_sub, pk_div, pk_rem, nI_clamp]; with_reducible exact vp_in_nI (by omega) (by omega))) dX4_stepOn_150 ?_
              simp (disch := omega) only [nI_add, pk_mul, nI_clamp]
              rw [u11, ← oI_un hb (show p * 4 + v < 256 by omega)]
              refine zJ_istore dX4_stepOn_151 (Nat.le_of_ble_eq_true rfl) (by decide) ?_
              have h209 : ∀ (J3 : zI) (F3 : Nat → Option Nat) (S3 : Nat → Nat → Prop) (sz3 : Nat), jI I J3 tab set a (wlB (I (s + 4))) D F3 (setB P p) S3 (fun u y => (adB (I 11) u y ∧ u ≠ p) ∨ (u = p ∧ ∃ v', v' < v + 1 ∧ unI (I 11 (p * 4 + v')) = some y)) M sz3 → sz3 + (i + 1) ≤ 64 + 4 * cB P 64 + (v + 1) → F3 p = some x' → ∀ o9, zJ l Xi mX4_stepOn d 0 0 209 [some (.ref 49), some (.ref s), some (.int (nI set)), some (.int (nI (set * 64))), some (.int (nI i)), none, some (.int (nI p)), some (.int (nI (x' + 1))), some (.int (nI v)), o9] [] (J3, g) (fun r' h' => r' = .inl none ∧ ∃ I', h' = (I', g) ∧ sbJ I I' ∧ sJ I' (tset tab set D)) := by
                intro J3 F3 S3 sz3 m1 m2 m3 o9
                refine zJ_iinc1 dX4_stepOn_209 rfl (by decide) ?_
                refine zJ_goto 114 dX4_stepOn_212 (by decide) ?_
                exact zJ_back (zle_r (zle_r (zle_r (zle_r (zle_r (zle_n (zle_r (zle_r (zle_r (zle_n zle_0)))))))))) rfl (ih (v + 1) (by omega) J3 F3 S3 sz3 ⟨m1, m2, m3⟩)
              cases hnx : unI (I 11 (p * 4 + v)) with
              | none =>
                refine zJ_iload dX4_stepOn_153 rfl ?_
                refine zJ_iconst (v := -1) dX4_stepOn_155 rfl ?_
                refine zJ_icmp_eq 209 dX4_stepOn_156 (by decide) (fun _ => ?_) (fun c156 => absurd rfl c156)
                refine zJ_back (zle_r (zle_r (zle_r (zle_r (zle_r (zle_n (zle_r (zle_r (zle_r (zle_n zle_0)))))))))) rfl (h209 J2 F2 S2 sz2 ⟨t1, t2, t3, t4, djK_R t6 (fun x y hx hy hwy had => ?_)⟩ (by omega) hFp2 none)
                rcases had with h | ⟨h1, v', h2, h3⟩
                · exact Or.inl h
                · refine Or.inr ⟨h1, v', ?_, h3⟩
                  rcases Nat.lt_or_ge v' v with q | q
                  · exact q
                  · rw [show v' = v by omega, hnx] at h3; cases h3
              | some q =>
                have hq64 := un_lt hb (by omega) hnx
                have hadq : adB (I 11) p q := ⟨v, by omega, hnx⟩
                have v3 : J2 52 (set * 64 + q) = ej (F2 q) := by rw [t4 set q hset hq64, ts_same]
                have hF9 : ∀ u, F2 q = some u → u ≤ 999 := fun u hu => by have := (t6.1 q u hq64 hu).2; omega
                have hRR : ∀ {F9 : Nat → Option Nat} {S9 : Nat → Nat → Prop}, djK a (wlB (I (s + 4))) D F9 (setB P p) S9 (fun x y => ((adB (I 11) x y ∧ x ≠ p) ∨ (x = p ∧ ∃ v', v' < v ∧ unI (I 11 (p * 4 + v')) = some y)) ∨ (x = p ∧ y = q)) M → djK a (wlB (I (s + 4))) D F9 (setB P p) S9 (fun x y => (adB (I 11) x y ∧ x ≠ p) ∨ (x = p ∧ ∃ v', v' < v + 1 ∧ unI (I 11 (p * 4 + v')) = some y)) M := fun h9 => djK_R h9 (fun x y hx hy hwy had => by
                  rcases had with h | ⟨h1, v', h2, h3⟩
                  · exact Or.inl (Or.inl h)
                  · rcases Nat.lt_or_ge v' v with z | z
                    · exact Or.inl (Or.inr ⟨h1, v', z, h3⟩)
                    · rw [show v' = v by omega, hnx] at h3; cases h3; exact Or.inr ⟨h1, rfl⟩)
                refine zJ_iload dX4_stepOn_153 rfl ?_
                refine zJ_iconst (v := -1) dX4_stepOn_155 rfl ?_
                refine zJ_icmp_eq 209 dX4_stepOn_156 (by decide) (fun c156 => absurd c156 (nI_ne1 (by omega))) (fun _ => ?_)
                simp only [show oI (some q) = nI q from rfl]
                refine zJ_aload_n dX4_stepOn_159 rfl ?_
                refine zP_getr lf_X4_69 hst.1 rfl (zK_rf hst 3 3 4 64 rfl) dX4_stepOn_160 ?_
                refine zJ_iload dX4_stepOn_163 rfl ?_
                refine zP_iald (zK_ar hst 3 3 4 64 rfl) (by first | assumption | with_reducible exact vp_in_nI (by omega) (by omega) | (simp (disch := omega) only [nI_add, pk_mul, pk_sub, pk_div, pk_rem, nI_clamp]; with_reducible exact vp_in_nI (by omega) (by omega))) dX4_stepOn_165 ?_
                rw [nI_clamp (by omega), u4]
                refine zJ_if_ne 209 dX4_stepOn_166 (by decide) (fun c166 => ?_) (fun c166 => ?_)
                · skip
                  refine zJ_back (zle_r (zle_r (zle_r (zle_r (zle_r (zle_n (zle_r (zle_r (zle_r (zle_n zle_0)))))))))) rfl (h209 J2 F2 S2 sz2 ⟨t1, t2, t3, t4, djK_R t6 (fun x y hx hy hwy had => ?_)⟩ (by omega) hFp2 none)
                  rcases had with h | ⟨h1, v', h2, h3⟩
                  · exact Or.inl h
                  · refine Or.inr ⟨h1, v', ?_, h3⟩
                    rcases Nat.lt_or_ge v' v with z | z
                    · exact z
                    · rw [show v' = v by omega, hnx] at h3
                      cases h3
                      simp [wlB, c166] at hwy
                · skip
                  refine zJ_iload dX4_stepOn_169 rfl ?_
                  refine zJ_aload_n dX4_stepOn_171 rfl ?_
                  refine zP_getr lf_X4_18 (zSt_ob hs 49 4 rfl) rfl (zSt_rf hs 49 2 52 rfl) dX4_stepOn_172 ?_
                  refine zJ_iload_n dX4_stepOn_175 rfl ?_
                  refine zJ_iload dX4_stepOn_176 rfl ?_
                  refine zJ_iadd dX4_stepOn_178 ?_
                  refine zP_iald (zSt_ar hs 52 512 rfl) (by first | assumption | with_reducible exact vp_in_nI (by omega) (by omega) | (simp (disch := omega) only [nI_add, pk_mul, pk_sub, pk_div, pk_rem, nI_clamp]; with_reducible exact vp_in_nI (by omega) (by omega))) dX4_stepOn_179 ?_
                  simp (disch := omega) only [nI_add, nI_clamp]
                  rw [v3]
                  refine zJ_icmp_ge 209 dX4_stepOn_180 (by decide) (fun c180 => ?_) (fun c180 => ?_)
                  · skip
                    have hsm : ∃ b, F2 q = some b ∧ b ≤ x' + 1 := by
                      cases e2 : F2 q with
                      | none =>
                        rw [e2] at c180
                        have := (nI_leI (a := 1000) (by omega) (by omega)).mp c180
                        omega
                      | some b =>
                        rw [e2] at c180
                        exact ⟨b, rfl, (nI_leI (by have := hF9 b e2; omega) (by omega)).mp c180⟩
                    obtain ⟨b, hb1, hb2⟩ := hsm
                    exact zJ_back (zle_r (zle_r (zle_r (zle_r (zle_r (zle_n (zle_r (zle_r (zle_r (zle_n zle_0)))))))))) rfl (h209 J2 F2 S2 sz2 ⟨t1, t2, t3, t4, hRR (djK_same t6 hFp2 hb1 hb2)⟩ (by omega) hFp2 none)
                  · skip
                    refine zJ_aload_n dX4_stepOn_183 rfl ?_
                    refine zP_getr lf_X4_18 (zSt_ob hs 49 4 rfl) rfl (zSt_rf hs 49 2 52 rfl) dX4_stepOn_184 ?_
                    refine zJ_iload_n dX4_stepOn_187 rfl ?_
                    refine zJ_iload dX4_stepOn_188 rfl ?_
                    refine zJ_iadd dX4_stepOn_190 ?_
                    refine zJ_iload dX4_stepOn_191 rfl ?_
                    refine zP_iast (zSt_ar hs 52 512 rfl) (by first | assumption | with_reducible exact vp_in_nI (by omega) (by omega) | (simp (disch := omega) only [nI_add, pk_mul, pk_sub, pk_div, pk_rem, nI_clamp]; with_reducible exact vp_in_nI (by omega) (by omega))) dX4_stepOn_193 ?_
                    simp (disch := omega) only [nI_add, nI_clamp]
                    refine zJ_aload_n dX4_stepOn_194 rfl ?_
                    refine zP_getr lf_X4_12 (zSt_ob hs 49 4 rfl) rfl (zSt_rf hs 49 1 50 rfl) dX4_stepOn_195 ?_
                    refine zJ_iload dX4_stepOn_198 rfl ?_
                    refine zJ_bipush (v := nI 64) dX4_stepOn_200 rfl ?_
                    refine zJ_imul dX4_stepOn_202 ?_
                    refine zJ_iload dX4_stepOn_203 rfl ?_
                    refine zJ_iadd dX4_stepOn_205 ?_
                    rw [pk_mul, nI_add]
                    have hwq : wlB (I (s + 4)) q = false := by simp [wlB, c166]
                    have hbet : ∀ b, F2 q = some b → x' + 1 < b := fun b hb2 => by rw [hb2] at c180; exact Nat.not_le.mp (fun z => c180 (nI_le z (by have := hF9 b hb2; omega)))
                    obtain ⟨hfresh, hdk3⟩ := djK_better hF t6 hPs hFp2 (by omega) hq64 hadq hwq hbet
                    have y50 : zup J2 52 (set * 64 + q) (nI (x' + 1)) 50 1 = nI sz2 := by rw [zup_row (by decide)]; exact t2
                    have y51 : hpH (zup J2 52 (set * 64 + q) (nI (x' + 1)) (50 + 1)) sz2 (keyS S2) := by rw [zup_row (by decide)]; exact t3
                    have hnk : ¬ keyS S2 (nI ((x' + 1) * 64 + q)) := fun ⟨a2, p2, h2, e2⟩ => by have h4 := t6.2.2.2.1 a2 p2 h2; obtain ⟨z1, z2⟩ := key_inj (by omega) hq64 (by omega) h4.1 e2; exact hfresh (by rw [z1, z2]; exact h2)
                    refine zP_ecallVv [_] _ lv_X4_55 (k_X3_push (d := d - 1) hl (by omega) (zSt_heapJ hs) y50 (by omega) y51 hnk) (zSt_ob hs 50 3 rfl) rfl (by omega) (Nat.le_of_ble_eq_true rfl) rfl dX4_stepOn_206 (fun J4 h4 => ?_)
                    obtain ⟨f4, rfl, hf4⟩ := h4
                    have hpq : p ≠ q := fun e => by
                      have := hbet x' (by rw [← e]; exact hFp2)
                      omega
                    refine zJ_back (zle_r (zle_r (zle_r (zle_r (zle_r (zle_n (zle_r (zle_r (zle_r (zle_n zle_0)))))))))) rfl (h209 _ (setO F2 q (x' + 1)) (fun x y => S2 x y ∨ (x = x' + 1 ∧ y = q)) (sz2 + 1) ⟨sbJ_up (sbJ_zup (sbJ_zup t1 (by decide)) (by decide)) (by decide), ?_, ?_, ?_, hRR hdk3⟩ (by omega) ?_ none)
                    · rw [va_up_row (by decide), zup_same, upd_at]
                    · rw [show (51 : Nat) = 50 + 1 from rfl, va_up_same]
                      refine hpH_congr hf4 (fun w => ⟨fun h => ?_, fun ⟨a2, p2, h, e2⟩ => ?_⟩)
                      · rcases h with ⟨a2, p2, h, e2⟩ | h
                        · exact ⟨a2, p2, Or.inl h, e2⟩
                        · exact ⟨x' + 1, q, Or.inr ⟨rfl, rfl⟩, h⟩
                      · rcases h with h | ⟨h1, h2⟩
                        · exact Or.inl ⟨a2, p2, h, e2⟩
                        · exact Or.inr (by rw [e2, h1, h2])
                    · refine sJ_of (sJ_put (v := x' + 1) hset hq64 t4) ?_
                      rw [va_up_row (by decide), zup_row (by decide)]
                    · simp [setO, hpq]; exact hFp2
          refine zJ_back (zle_r (zle_r (zle_r (zle_r (zle_r (zle_n (zle_r (zle_r (zle_r (zle_n zle_0)))))))))) rfl (inner 4 0 (by omega) J1 F _ sz' ⟨⟨hsb1, q50, hhp2, hst1, djK_R hdk2 (fun x y _ _ _ had => ?_)⟩, by omega, hFp⟩)
          rcases had with h | ⟨-, v', h2, -⟩
          · exact h
          · omega
  have init : ∀ m p, p + m = 64 → ∀ (J : zI) (sz : Nat), (sbJ I J ∧ J 50 1 = nI sz ∧ sz ≤ p ∧ hpH (J 51) sz (keyS (fun x q => q < p ∧ a q = some x)) ∧ J 52 = I 52) → zJ l Xi mX4_stepOn d 0 0 15 [some (.ref 49), some (.ref s), some (.int (nI set)), some (.int (nI (set * 64))), some (.int (nI p)), none, none, none, none, none] [] (J, g) (fun r' h' => r' = .inl none ∧ ∃ I', h' = (I', g) ∧ sbJ I I' ∧ sJ I' (tset tab set D)) := by
    intro m
    induction m with
    | zero =>
      intro p hp J sz hI
      obtain rfl : p = 64 := by omega
      refine zJ_iload dX4_stepOn_15 rfl ?_
      refine zJ_bipush (v := nI 64) dX4_stepOn_17 rfl ?_
      refine zJ_icmp_ge 65 dX4_stepOn_19 (by decide) (fun _ => ?_) (fun c19 => absurd (nI_le (by omega) (by omega)) c19)
      refine zJ_iconst (v := nI 0) dX4_stepOn_65 rfl ?_
      refine zJ_istore dX4_stepOn_66 (Nat.le_of_ble_eq_true rfl) (by decide) ?_
      obtain ⟨h1, h2, h3, h4, h5⟩ := hI
      refine zJ_back (zle_r (zle_r (zle_r (zle_r (zle_r (zle_n (zle_n (zle_n (zle_n (zle_n zle_0)))))))))) rfl (main 320 0 (by omega) J a (fun _ => false) (fun x p => p < 64 ∧ a p = some x) sz ⟨⟨h1, h2, h4, sJ_of hT h5, djK_0 hF hM⟩, by omega⟩)
    | succ m ih =>
      intro p hp J sz hI
      obtain ⟨h1, h2, h3, h4, h5⟩ := hI
      have v1 : J 52 (set * 64 + p) = ej (a p) := by rw [h5, hT set p hset (by omega), ts_same]
      refine zJ_iload dX4_stepOn_15 rfl ?_
      refine zJ_bipush (v := nI 64) dX4_stepOn_17 rfl ?_
      refine zJ_icmp_ge 65 dX4_stepOn_19 (by decide) (fun c19 => absurd c19 (nI_ge (by omega) (by omega))) (fun _ => ?_)
      refine zJ_aload_n dX4_stepOn_22 rfl ?_
      refine zP_getr lf_X4_18 (zSt_ob hs 49 4 rfl) rfl (zSt_rf hs 49 2 52 rfl) dX4_stepOn_23 ?_
      refine zJ_iload_n dX4_stepOn_26 rfl ?_
      refine zJ_iload dX4_stepOn_27 rfl ?_
      refine zJ_iadd dX4_stepOn_29 ?_
      refine zP_iald (zSt_ar hs 52 512 rfl) (by first | assumption | with_reducible exact vp_in_nI (by omega) (by omega) | (simp (disch := omega) only [nI_add, pk_mul, pk_sub, pk_div, pk_rem, nI_clamp]; with_reducible exact vp_in_nI (by omega) (by omega))) dX4_stepOn_30 ?_
      simp (disch := omega) only [nI_add, nI_clamp]
      rw [v1]
      refine zJ_sipush (v := nI 1000) dX4_stepOn_31 rfl ?_
      refine zJ_icmp_ge 59 dX4_stepOn_34 (by decide) (fun c34 => ?_) (fun c34 => ?_)
      · skip
        refine zJ_iinc1 dX4_stepOn_59 rfl (by decide) ?_
        refine zJ_goto 15 dX4_stepOn_62 (by decide) ?_
        refine zJ_back (zle_r (zle_r (zle_r (zle_r (zle_r (zle_n (zle_n (zle_n (zle_n (zle_n zle_0)))))))))) rfl (ih (p + 1) (by omega) J sz ⟨h1, h2, by omega, hpH_congr h4 (fun w => ⟨fun ⟨a2, p2, h6, e2⟩ => ⟨a2, p2, ⟨by omega, h6.2⟩, e2⟩, fun ⟨a2, p2, h6, e2⟩ => ⟨a2, p2, ⟨Nat.lt_of_not_le (fun z => ?_), h6.2⟩, e2⟩⟩), h5⟩)
        have e : p2 = p := by omega
        rw [e] at h6
        rw [h6.2] at c34
        have := hM p a2 (by omega) h6.2
        have h8 := (nI_leI (a := 1000) (by omega) (by omega)).mp c34
        omega
      · skip
        obtain ⟨x, hx⟩ : ∃ x, a p = some x := by cases e : a p with | none => (rw [e] at c34; exact absurd (nI_le (Nat.le_refl 1000) (by omega)) c34) | some x => exact ⟨x, rfl⟩
        have hxM := hM p x (by omega) hx
        refine zJ_aload_n dX4_stepOn_37 rfl ?_
        refine zP_getr lf_X4_12 (zSt_ob hs 49 4 rfl) rfl (zSt_rf hs 49 1 50 rfl) dX4_stepOn_38 ?_
        refine zJ_aload_n dX4_stepOn_41 rfl ?_
        refine zP_getr lf_X4_18 (zSt_ob hs 49 4 rfl) rfl (zSt_rf hs 49 2 52 rfl) dX4_stepOn_42 ?_
        refine zJ_iload_n dX4_stepOn_45 rfl ?_
        refine zJ_iload dX4_stepOn_46 rfl ?_
        refine zJ_iadd dX4_stepOn_48 ?_
        refine zP_iald (zSt_ar hs 52 512 rfl) (by first | assumption | with_reducible exact vp_in_nI (by omega) (by omega) | (simp (disch := omega) only [nI_add, pk_mul, pk_sub, pk_div, pk_rem, nI_clamp]; with_reducible exact vp_in_nI (by omega) (by omega))) dX4_stepOn_49 ?_
        simp (disch := omega) only [nI_add, nI_clamp]
        rw [v1, hx, show ej (some x) = nI x from rfl]
        refine zJ_bipush (v := nI 64) dX4_stepOn_50 rfl ?_
        refine zJ_imul dX4_stepOn_52 ?_
        refine zJ_iload dX4_stepOn_53 rfl ?_
        refine zJ_iadd dX4_stepOn_55 ?_
        rw [pk_mul, nI_add]
        have hfr : ¬ keyS (fun x q => q < p ∧ a q = some x) (nI (x * 64 + p)) := fun ⟨a2, p2, h6, e2⟩ => by have := hM p2 a2 (by omega) h6.2; obtain ⟨z1, z2⟩ := key_inj (by omega) (by omega) (by omega) (by omega) e2; omega
        refine zP_ecallVv [_] _ lv_X4_55 (k_X3_push (d := d - 1) hl (by omega) (zSt_heapJ hs) h2 (by omega) h4 hfr) (zSt_ob hs 50 3 rfl) rfl (by omega) (Nat.le_of_ble_eq_true rfl) rfl dX4_stepOn_56 (fun J4 h7 => ?_)
        refine zJ_iinc1 dX4_stepOn_59 rfl (by decide) ?_
        refine zJ_goto 15 dX4_stepOn_62 (by decide) ?_
        obtain ⟨f, rfl, hf⟩ := h7
        refine zJ_back (zle_r (zle_r (zle_r (zle_r (zle_r (zle_n (zle_n (zle_n (zle_n (zle_n zle_0)))))))))) rfl (ih (p + 1) (by omega) _ (sz + 1) ⟨sbJ_up (sbJ_zup h1 (by decide)) (by decide), ?_, by omega, ?_, ?_⟩)
        · rw [va_up_row (by decide), zup_same, upd_at]
        · rw [show (51 : Nat) = 50 + 1 from rfl, va_up_same]
          refine hpH_congr hf (fun w => ⟨fun h => ?_, fun ⟨a2, p2, h6, e2⟩ => ?_⟩)
          · rcases h with ⟨a2, p2, h6, e2⟩ | e
            · exact ⟨a2, p2, ⟨by omega, h6.2⟩, e2⟩
            · exact ⟨x, p, ⟨by omega, hx⟩, e⟩
          · by_cases e3 : p2 = p
            · refine Or.inr ?_
              have h9 := h6.2
              rw [e3, hx] at h9
              injection h9 with h9
              rw [e2, e3, h9]
            · exact Or.inl ⟨a2, p2, ⟨by omega, h6.2⟩, e2⟩
        · rw [va_up_row (by decide), zup_row (by decide)]; exact h5
  refine zJ_iload_n dX4_stepOn_0 rfl ?_
  refine zJ_bipush (v := nI 64) dX4_stepOn_1 rfl ?_
  refine zJ_imul dX4_stepOn_3 ?_
  rw [pk_mul]
  refine zJ_istore_m 3 dX4_stepOn_4 rfl (Nat.le_of_ble_eq_true rfl) (by decide) ?_
  refine zJ_aload_n dX4_stepOn_5 rfl ?_
  refine zP_getr lf_X4_12 (zSt_ob hs 49 4 rfl) rfl (zSt_rf hs 49 1 50 rfl) dX4_stepOn_6 ?_
  refine zP_callVv [] _ lv_X4_52 (k_X3_clear (d := d - 1) hl (by omega) (zSt_heapJ hs)) (zSt_ob hs 50 3 rfl) rfl (by omega) (Nat.le_of_ble_eq_true rfl) rfl dX4_stepOn_9 ?_
  refine zJ_iconst (v := nI 0) dX4_stepOn_12 rfl ?_
  refine zJ_istore dX4_stepOn_13 (Nat.le_of_ble_eq_true rfl) (by decide) ?_
  refine init 64 0 (by omega) (zup I 50 1 0) 0 ⟨sbJ_zup sbJ_rfl (by decide), ?_, by omega, ?_, ?_⟩
  · rw [zup_same, upd_at]; rfl
  · exact ⟨fun j h0 hj => by omega, fun v => ⟨fun ⟨x, q, hq, _⟩ => by omega, fun ⟨q, hq, _⟩ => by omega⟩, fun i j hi => by omega⟩
  · rw [zup_row (by decide)]
end ZJoin3
