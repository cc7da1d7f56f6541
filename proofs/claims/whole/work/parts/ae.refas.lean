/-! ===== the reference: goes ===== -/
section ZRefAS
variable {l : Launch} {Xi : zXi} {d : Nat} {I : zI} {g : zG}
def fG (I J : zI) : Prop := (∀ a, a ≠ 74 → a ≠ 533 → a ≠ 450 → a ≠ 451 → (a < 557 ∨ 559 < a) → J a = I a) ∧ ∀ k, k ≠ 43 → k ≠ 44 → k ≠ 37 → J 74 k = I 74 k
theorem fG_rfl : fG I I := ⟨fun _ _ _ _ _ _ => rfl, fun _ _ _ _ => rfl⟩
theorem fG_trans {J K : zI} (h : fG I J) (h2 : fG J K) : fG I K := ⟨fun a q1 q2 q3 q4 q5 => (h2.1 a q1 q2 q3 q4 q5).trans (h.1 a q1 q2 q3 q4 q5), fun k q1 q2 q3 => (h2.2 k q1 q2 q3).trans (h.2 k q1 q2 q3)⟩
theorem fG_74 {J : zI} {j : Nat} {x : Int32} (h : fG I J) (hj : j = 43 ∨ j = 44 ∨ j = 37) : fG I (zup J 74 j x) := ⟨fun a q1 q2 q3 q4 q5 => by rw [zup_row q1]; exact h.1 a q1 q2 q3 q4 q5, fun i q1 q2 q3 => by rw [zup_same, upd_ne (by omega)]; exact h.2 i q1 q2 q3⟩
theorem fG_rS {J : zI} (h : rS 533 I J) : fG I J := ⟨fun a q1 q2 q3 q4 q5 => h a q2 q3 q4 (by omega) (by omega) (by omega), fun k _ _ _ => by rw [h 74 (by decide) (by decide) (by decide) (by decide) (by decide) (by decide)]⟩
/-- begun, done, refused, the row -/
def gS (J : zI) (b : zWo) (s : xs) : Prop := rRow J 533 b s.2.2.2 ∧ okR b s.2.2.2 ∧ s.1 ≤ 200 ∧ J 74 43 = nI s.1 ∧ J 74 44 = nI s.2.1 ∧ J 74 37 = nI s.2.2.1
theorem rq_fG {J : zI} {ts : List tok} (h : rq I 0 0 ts) (hr : rn ts ts.length ≤ 80) (hf : fG I J) : rq J 0 0 ts := rq_of h (fun a q1 q2 => hf.1 a (by omega) (by omega) (by omega) (by omega) (by omega))
def cG (l : Launch) (Xi : zXi) (g : zG) (b : zWo) (ts : List tok) (f : Nat) : Prop := ∀ (o d n i j : Nat) (s s' : xs) (I : zI), o ≤ 6 → (6 - o) + 11 ≤ d → rB I b → rq I 0 0 ts → gS I b s → sqOk (bN b) (bC b) (bR b) ts n o i j → j ≤ ts.length → exW b ts f 0 0 i j s = some s' → zEv l Xi mX13_goes d [.ref 74, .int (nI (rn ts i)), .int (nI (rn ts j))] I g (fun J => fG I J ∧ gS J b s')
theorem okR_tk {b : zWo} {R : rwT} {t : tok} (hb : bdOk b) (hg : gnOk b) (h : okR b R) (ht : tkOk (bN b) (bC b) (bR b) t) : okR b (perM b R t.1 t.2.1 t.2.2) := okR_per hb hg h ht.2.1 (fun z => by have := ht.2.2.1 z; have := hb.2.1; have := hb.2.2.2.1; omega) (fun z => (ht.2.2.2.1 z).2)
set_option maxHeartbeats 2000000 in
theorem cm_goes (hl : l.stackTraces = false) (hs : zSt g) {b : zWo} {ts : List tok} (hg : gnOk b) (hr : rn ts ts.length ≤ 80) {F : Nat} (hU : ∀ k, k < F → cG l Xi g b ts k) : cG l Xi g b ts F := by
  intro o d n0 i0 j s0 s' I ho hd hB hq hS0 hsq0 hj hex0
  refine zC_of hl rfl rfl rfl (Nat.le_of_ble_eq_true rfl) (zav_r (zSt_ob hs 74 13 rfl).1 (zav_i (zav_i zav_0))) ?_
  have hb := hB.1
  have ha := zSt_ar hs 533 519 rfl
  obtain ⟨P, hP⟩ : ∃ P : zR → zH → Prop, P = (fun r' h' => r' = .inl none ∧ ∃ J, h' = (J, g) ∧ fG I J ∧ gS J b s') := ⟨_, rfl⟩
  have hrl : ∀ x, x ≤ ts.length → rn ts x ≤ 80 := fun x hx => Nat.le_trans (rn_mono hx) hr
  have loop2 : ∀ f, f ≤ F → ∀ (n i : Nat) (s : xs) (J : zI), fG I J → gS J b s → sqOk (bN b) (bC b) (bR b) ts n o i j → exW b ts f 0 0 i j s = some s' → zJ l Xi mX13_goes d 0 0 2 [some (.ref 74), some (.int (nI (rn ts i0))), some (.int (nI (rn ts j))), some (.int (nI (rn ts i))), none] [] (J, g) P := by
    intro f
    induction f with
    | zero => intro _ n i s J _ _ _ he; cases he
    | succ f ih =>
      intro hfF n i s J hf hS hsq he
      obtain ⟨S1, S2, S3, S4, S5, S6⟩ := hS
      have hBJ : rB J b := rB_of hB (hf.2 20 (by decide) (by decide) (by decide)) (fun a q => hf.1 a (by omega) (by omega) (by omega) (by omega) (by omega))
      have hqJ := rq_fG hq hr hf
      have hij : i = j ∨ (i < j ∧ ∃ m, n = m + 1 ∧ (((tk ts i).1 = 6 ∧ o < 6 ∧ (tk ts i).2.1 ≤ 40 ∧ i < (tk ts i).2.2 ∧ (tk ts i).2.2 < j ∧ (tk ts (tk ts i).2.2).1 = 7 ∧ (tk ts (tk ts i).2.2).2.1 = i ∧ sqOk (bN b) (bC b) (bR b) ts m (o + 1) (i + 1) (tk ts i).2.2 ∧ sqOk (bN b) (bC b) (bR b) ts m o ((tk ts i).2.2 + 1) j) ∨ (tkOk (bN b) (bC b) (bR b) (tk ts i) ∧ sqOk (bN b) (bC b) (bR b) ts m o (i + 1) j))) := by
        cases n with
        | zero => exact Or.inl hsq
        | succ m =>
          rcases hsq with z | ⟨z1, z2⟩
          · exact Or.inl z
          · exact Or.inr ⟨z1, m, rfl, z2⟩
      rcases hij with rfl | ⟨hlt, m, rfl, hst⟩
      · have e : s' = s := by rw [exW, if_pos rfl, if_pos (Or.inl (Nat.le_refl _))] at he; cases he; rfl
        rw [hP, e]
        refine zJ_iload_n dX13_goes_2 rfl ?_
        refine zJ_iload_n dX13_goes_3 rfl ?_
        refine zJ_icmp_ge 156 dX13_goes_4 (by decide) (fun _ => ?_) (fun c4 => absurd (nI_le (by omega) (by have := hrl i (by omega); omega)) c4)
        refine zJ_vret rfl dX13_goes_156 ?_
        exact ⟨rfl, J, rfl, hf, S1, S2, S3, S4, S5, S6⟩
      · have hne7 : (tk ts i).1 ≠ 7 := hst.elim (fun z => by rw [z.1]; decide) (fun z => by have := z.1.1; omega)
        have hri := rn_st hne7
        have hrj := rn_mono (c := ts) (show i + 1 ≤ j from hlt)
        have hrj80 := hrl j hj
        by_cases hbg : 200 ≤ s.1
        · have e : s' = s := by rw [exW, if_pos rfl, if_pos (Or.inr hbg)] at he; cases he; rfl
          rw [hP, e]
          refine zJ_iload_n dX13_goes_2 rfl ?_
          refine zJ_iload_n dX13_goes_3 rfl ?_
          refine zJ_icmp_ge 156 dX13_goes_4 (by decide) (fun c4 => absurd c4 (nI_ge (by omega) (by omega))) (fun _ => ?_)
          refine zJ_aload_n dX13_goes_7 rfl ?_
          refine zP_geti lf_X13_366 (zSt_ob hs 74 13 rfl) rfl dX13_goes_8 ?_
          rw [S4]
          refine zJ_sipush (v := nI 200) dX13_goes_11 rfl ?_
          refine zJ_icmp_ge 156 dX13_goes_14 (by decide) (fun _ => ?_) (fun c14 => absurd (nI_le hbg (by omega)) c14)
          refine zJ_vret rfl dX13_goes_156 ?_
          exact ⟨rfl, J, rfl, hf, S1, S2, S3, S4, S5, S6⟩
        · rw [exW, if_pos rfl, if_neg (by omega)] at he
          obtain ⟨J1, hJ1⟩ : ∃ J1, zup J 74 43 (nI (s.1 + 1)) = J1 := ⟨_, rfl⟩
          have e1 : ∀ a, a ≠ 74 → J1 a = J a := fun a q => by rw [← hJ1, zup_row q]
          have g1 : ∀ k, k ≠ 43 → J1 74 k = J 74 k := fun k q => by rw [← hJ1, zup_same, upd_ne q]
          have g43 : J1 74 43 = nI (s.1 + 1) := by rw [← hJ1, zup_same, upd_at]
          have hfJ1 : fG I J1 := by rw [← hJ1]; exact fG_74 hf (by omega)
          have hS1 : gS J1 b (s.1 + 1, s.2) := ⟨rRow_of S1 (e1 533 (by decide)), S2, by show s.1 + 1 ≤ 200; omega, g43, (g1 44 (by decide)).trans S5, (g1 37 (by decide)).trans S6⟩
          have hBJ1 : rB J1 b := rB_of hBJ (g1 20 (by decide)) (fun a q => e1 a (by omega))
          have hq1 := rq_fG hq hr hfJ1 i (by omega)
          simp only [rq1, Nat.zero_add, Nat.sub_zero] at hq1
          rcases hst with ⟨t1, t2, t3, t4, t5, t6, t7, t8, t9⟩ | ⟨t1, t2⟩
          · rw [if_pos t1] at he
            obtain ⟨-, -, r0, r1, r3⟩ := hq1.2 t1
            obtain ⟨e, he2⟩ : ∃ e, (tk ts i).2.2 = e := ⟨_, rfl⟩
            obtain ⟨cnt, hcnt⟩ : ∃ cnt, (tk ts i).2.1 = cnt := ⟨_, rfl⟩
            rw [he2, hcnt] at he
            rw [he2] at t4 t5 t6 t8 t9 r3
            rw [hcnt] at t3 r1
            have hre : rn ts (e + 1) = rn ts e := by show rn ts e + (if decide ((tk ts e).1 ≠ 7) = true then 1 else 0) = _; rw [t6]; rfl
            have hbind : ∃ s2, exW b ts f 1 cnt (i + 1) e (s.1 + 1, s.2) = some s2 ∧ exW b ts f 0 0 (e + 1) j s2 = some s' := by
              cases z : exW b ts f 1 cnt (i + 1) e (s.1 + 1, s.2) with
              | none => rw [z] at he; cases he
              | some s2 => rw [z] at he; exact ⟨s2, rfl, he⟩
            obtain ⟨s2, hx1, hx2⟩ := hbind
            have l43 : ∀ f2, f2 ≤ f → ∀ (c w : Nat) (s3 : xs) (K : zI), c + w = cnt → fG I K → gS K b s3 → exW b ts f2 1 c (i + 1) e s3 = some s2 → zJ l Xi mX13_goes d 0 0 43 [some (.ref 74), some (.int (nI (rn ts i0))), some (.int (nI (rn ts j))), some (.int (nI (rn ts i))), some (.int (nI w))] [] (K, g) P := by
              intro f2
              induction f2 with
              | zero => intro _ c w s3 K _ _ _ h; cases h
              | succ f2 ih2 =>
                intro hf2 c w s3 K hcw hfK hSK hx
                have hSK0 := hSK
                obtain ⟨K1, K2, K3, K4, K5, K6⟩ := hSK
                have hBK : rB K b := rB_of hB (hfK.2 20 (by decide) (by decide) (by decide)) (fun a q => hfK.1 a (by omega) (by omega) (by omega) (by omega) (by omega))
                have hqK0 := rq_fG hq hr hfK
                have hqK := hqK0 i (by omega)
                simp only [rq1, Nat.zero_add, Nat.sub_zero] at hqK
                obtain ⟨-, -, w0, w1, w3⟩ := hqK.2 t1
                rw [hcnt] at w1
                rw [he2] at w3
                have hri80 := hrl i (by omega)
                rw [exW, if_neg (by decide)] at hx
                have out : s2 = s3 → ∀ (y : Nat), zJ l Xi mX13_goes d 0 0 144 [some (.ref 74), some (.int (nI (rn ts i0))), some (.int (nI (rn ts j))), some (.int (nI (rn ts i))), some (.int (nI y))] [] (K, g) P := by
                  intro hss y
                  refine zJ_aload_n dX13_goes_144 rfl ?_
                  refine zP_getr lf_X13_67 (zSt_ob hs 74 13 rfl) rfl (zSt_rf hs 74 28 452 rfl) dX13_goes_145 ?_
                  refine zJ_iload_n dX13_goes_148 rfl ?_
                  refine zP_rowK (k := (rn ts i)) (zSt_g452 hs) (by omega) (by decide) dX13_goes_149 ?_
                  refine zJ_iconst (v := nI 3) dX13_goes_150 rfl ?_
                  refine zP_iald (zGr_ar (zSt_g452 hs) (i := (rn ts i)) (by omega)) (by first | assumption | with_reducible exact vp_in_nI (by omega) (by omega) | (simp (disch := omega) only [nI_add, pk_mul, pk_sub, pk_div, pk_rem, nI_clamp]; with_reducible exact vp_in_nI (by omega) (by omega))) dX13_goes_151 ?_
                  rw [nI_clamp (by omega), w3, ← hre]
                  refine zJ_istore_m 3 dX13_goes_152 rfl (Nat.le_of_ble_eq_true rfl) (by decide) ?_
                  refine zJ_goto 2 dX13_goes_153 (by decide) ?_
                  exact zJ_back (zle_r (zle_r (zle_r (zle_r (zle_n zle_0))))) rfl (ih (by omega) m (e + 1) s3 K hfK hSK0 t9 (by rw [← hss]; exact hx2))
                by_cases hc0 : c = 0
                · rw [if_pos (Or.inl hc0)] at hx
                  have hss : s2 = s3 := by cases hx; rfl
                  refine zJ_iload dX13_goes_43 rfl ?_
                  refine zJ_aload_n dX13_goes_45 rfl ?_
                  refine zP_getr lf_X13_67 (zSt_ob hs 74 13 rfl) rfl (zSt_rf hs 74 28 452 rfl) dX13_goes_46 ?_
                  refine zJ_iload_n dX13_goes_49 rfl ?_
                  refine zP_rowK (k := (rn ts i)) (zSt_g452 hs) (by omega) (by decide) dX13_goes_50 ?_
                  refine zJ_iconst (v := nI 1) dX13_goes_51 rfl ?_
                  refine zP_iald (zGr_ar (zSt_g452 hs) (i := (rn ts i)) (by omega)) (by first | assumption | with_reducible exact vp_in_nI (by omega) (by omega) | (simp (disch := omega) only [nI_add, pk_mul, pk_sub, pk_div, pk_rem, nI_clamp]; with_reducible exact vp_in_nI (by omega) (by omega))) dX13_goes_52 ?_
                  rw [nI_clamp (by omega), w1]
                  refine zJ_icmp_ge 87 dX13_goes_53 (by decide) (fun _ => ?_) (fun c53 => absurd (nI_le (by omega) (by omega)) c53)
                  refine zJ_goto 144 dX13_goes_87 (by decide) ?_
                  exact out hss w
                · by_cases h200 : 200 ≤ s3.1
                  · rw [if_pos (Or.inr h200)] at hx
                    have hss : s2 = s3 := by cases hx; rfl
                    refine zJ_iload dX13_goes_43 rfl ?_
                    refine zJ_aload_n dX13_goes_45 rfl ?_
                    refine zP_getr lf_X13_67 (zSt_ob hs 74 13 rfl) rfl (zSt_rf hs 74 28 452 rfl) dX13_goes_46 ?_
                    refine zJ_iload_n dX13_goes_49 rfl ?_
                    refine zP_rowK (k := (rn ts i)) (zSt_g452 hs) (by omega) (by decide) dX13_goes_50 ?_
                    refine zJ_iconst (v := nI 1) dX13_goes_51 rfl ?_
                    refine zP_iald (zGr_ar (zSt_g452 hs) (i := (rn ts i)) (by omega)) (by first | assumption | with_reducible exact vp_in_nI (by omega) (by omega) | (simp (disch := omega) only [nI_add, pk_mul, pk_sub, pk_div, pk_rem, nI_clamp]; with_reducible exact vp_in_nI (by omega) (by omega))) dX13_goes_52 ?_
                    rw [nI_clamp (by omega), w1]
                    refine zJ_icmp_ge 87 dX13_goes_53 (by decide) (fun c53 => absurd c53 (nI_ge (by omega) (by omega))) (fun _ => ?_)
                    refine zJ_aload_n dX13_goes_56 rfl ?_
                    refine zP_geti lf_X13_366 (zSt_ob hs 74 13 rfl) rfl dX13_goes_57 ?_
                    rw [K4]
                    refine zJ_sipush (v := nI 200) dX13_goes_60 rfl ?_
                    refine zJ_icmp_ge 87 dX13_goes_63 (by decide) (fun _ => ?_) (fun c63 => absurd (nI_le h200 (by omega)) c63)
                    refine zJ_goto 144 dX13_goes_87 (by decide) ?_
                    exact out hss w
                  · rw [if_neg (by omega)] at hx
                    obtain ⟨s4, hy1, hy2⟩ : ∃ s4, exW b ts f2 0 0 (i + 1) e s3 = some s4 ∧ exW b ts f2 1 (c - 1) (i + 1) e s4 = some s2 := by
                      cases z : exW b ts f2 0 0 (i + 1) e s3 with
                      | none => rw [z] at hx; cases hx
                      | some s4 => rw [z] at hx; exact ⟨s4, rfl, hx⟩
                    refine zJ_iload dX13_goes_43 rfl ?_
                    refine zJ_aload_n dX13_goes_45 rfl ?_
                    refine zP_getr lf_X13_67 (zSt_ob hs 74 13 rfl) rfl (zSt_rf hs 74 28 452 rfl) dX13_goes_46 ?_
                    refine zJ_iload_n dX13_goes_49 rfl ?_
                    refine zP_rowK (k := (rn ts i)) (zSt_g452 hs) (by omega) (by decide) dX13_goes_50 ?_
                    refine zJ_iconst (v := nI 1) dX13_goes_51 rfl ?_
                    refine zP_iald (zGr_ar (zSt_g452 hs) (i := (rn ts i)) (by omega)) (by first | assumption | with_reducible exact vp_in_nI (by omega) (by omega) | (simp (disch := omega) only [nI_add, pk_mul, pk_sub, pk_div, pk_rem, nI_clamp]; with_reducible exact vp_in_nI (by omega) (by omega))) dX13_goes_52 ?_
                    rw [nI_clamp (by omega), w1]
                    refine zJ_icmp_ge 87 dX13_goes_53 (by decide) (fun c53 => absurd c53 (nI_ge (by omega) (by omega))) (fun _ => ?_)
                    refine zJ_aload_n dX13_goes_56 rfl ?_
                    refine zP_geti lf_X13_366 (zSt_ob hs 74 13 rfl) rfl dX13_goes_57 ?_
                    rw [K4]
                    refine zJ_sipush (v := nI 200) dX13_goes_60 rfl ?_
                    refine zJ_icmp_ge 87 dX13_goes_63 (by decide) (fun c63 => absurd c63 (nI_ge (by omega) (by omega))) (fun _ => ?_)
                    refine zJ_aload_n dX13_goes_66 rfl ?_
                    refine zJ_iload_n dX13_goes_67 rfl ?_
                    refine zJ_iconst (v := nI 1) dX13_goes_68 rfl ?_
                    refine zJ_iadd dX13_goes_69 ?_
                    rw [nI_add, ← hri]
                    refine zJ_aload_n dX13_goes_70 rfl ?_
                    refine zP_getr lf_X13_67 (zSt_ob hs 74 13 rfl) rfl (zSt_rf hs 74 28 452 rfl) dX13_goes_71 ?_
                    refine zJ_iload_n dX13_goes_74 rfl ?_
                    refine zP_rowK (k := (rn ts i)) (zSt_g452 hs) (by omega) (by decide) dX13_goes_75 ?_
                    refine zJ_iconst (v := nI 3) dX13_goes_76 rfl ?_
                    refine zP_iald (zGr_ar (zSt_g452 hs) (i := (rn ts i)) (by omega)) (by first | assumption | with_reducible exact vp_in_nI (by omega) (by omega) | (simp (disch := omega) only [nI_add, pk_mul, pk_sub, pk_div, pk_rem, nI_clamp]; with_reducible exact vp_in_nI (by omega) (by omega))) dX13_goes_77 ?_
                    rw [nI_clamp (by omega), w3]
                    refine zP_ecallVv [_, _] _ lv_X13_369 (hU f2 (by omega) (o + 1) (d - 1) m (i + 1) e s3 s4 K (by omega) (by omega) hBK hqK0 hSK0 t8 (by omega) hy1) (zSt_ob hs 74 13 rfl) rfl (by omega) (Nat.le_of_ble_eq_true rfl) rfl dX13_goes_78 (fun K9 h9 => ?_)
                    refine zJ_iinc1 dX13_goes_81 rfl (by decide) ?_
                    refine zJ_goto 43 dX13_goes_84 (by decide) ?_
                    exact zJ_back (zle_r (zle_r (zle_r (zle_r (zle_r zle_0))))) rfl (ih2 (by omega) (c - 1) (w + 1) s4 K9 (by omega) (fG_trans hfK h9.1) h9.2 hy2)
            refine zJ_iload_n dX13_goes_2 rfl ?_
            refine zJ_iload_n dX13_goes_3 rfl ?_
            refine zJ_icmp_ge 156 dX13_goes_4 (by decide) (fun c4 => absurd c4 (nI_ge (by omega) (by omega))) (fun _ => ?_)
            refine zJ_aload_n dX13_goes_7 rfl ?_
            refine zP_geti lf_X13_366 (zSt_ob hs 74 13 rfl) rfl dX13_goes_8 ?_
            rw [S4]
            refine zJ_sipush (v := nI 200) dX13_goes_11 rfl ?_
            refine zJ_icmp_ge 156 dX13_goes_14 (by decide) (fun c14 => absurd c14 (nI_ge (by omega) (by omega))) (fun _ => ?_)
            refine zJ_aload_n dX13_goes_17 rfl ?_
            refine zJ_dup dX13_goes_18 rfl ?_
            refine zP_geti lf_X13_366 (zSt_ob hs 74 13 rfl) rfl dX13_goes_19 ?_
            rw [S4]
            refine zJ_iconst (v := nI 1) dX13_goes_22 rfl ?_
            refine zJ_iadd dX13_goes_23 ?_
            rw [nI_add]
            refine zP_puti lf_X13_366 (zSt_ob hs 74 13 rfl) rfl dX13_goes_24 ?_
            rw [hJ1]
            refine zJ_aload_n dX13_goes_27 rfl ?_
            refine zP_getr lf_X13_67 (zSt_ob hs 74 13 rfl) rfl (zSt_rf hs 74 28 452 rfl) dX13_goes_28 ?_
            refine zJ_iload_n dX13_goes_31 rfl ?_
            refine zP_rowK (k := (rn ts i)) (zSt_g452 hs) (by omega) (by decide) dX13_goes_32 ?_
            refine zJ_iconst (v := nI 0) dX13_goes_33 rfl ?_
            refine zP_iald (zGr_ar (zSt_g452 hs) (i := (rn ts i)) (by omega)) (by first | assumption | with_reducible exact vp_in_nI (by omega) (by omega) | (simp (disch := omega) only [nI_add, pk_mul, pk_sub, pk_div, pk_rem, nI_clamp]; with_reducible exact vp_in_nI (by omega) (by omega))) dX13_goes_34 ?_
            rw [nI_clamp (by omega), r0]
            refine zJ_bipush (v := nI 6) dX13_goes_35 rfl ?_
            refine zJ_icmp_ne 90 dX13_goes_37 (by decide) (fun c37 => absurd rfl c37) (fun _ => ?_)
            refine zJ_iconst (v := nI 0) dX13_goes_40 rfl ?_
            refine zJ_istore dX13_goes_41 (Nat.le_of_ble_eq_true rfl) (by decide) ?_
            exact zJ_back (zle_r (zle_r (zle_r (zle_r (zle_r zle_0))))) rfl (l43 f (Nat.le_refl _) cnt 0 (s.1 + 1, s.2) J1 rfl hfJ1 hS1 hx1)
          · have hk5 := t1.1
            rw [if_neg (by omega)] at he
            obtain ⟨r2, r3⟩ := hq1.1 hk5
            have hk0 : J1 (452 + 1 + rn ts i) 0 = nI (tk ts i).1 := r2.1
            cases hpb : perB b s.2.2.2 (tk ts i).1 (tk ts i).2.1 (tk ts i).2.2 with
            | true =>
              refine zJ_iload_n dX13_goes_2 rfl ?_
              refine zJ_iload_n dX13_goes_3 rfl ?_
              refine zJ_icmp_ge 156 dX13_goes_4 (by decide) (fun c4 => absurd c4 (nI_ge (by omega) (by omega))) (fun _ => ?_)
              refine zJ_aload_n dX13_goes_7 rfl ?_
              refine zP_geti lf_X13_366 (zSt_ob hs 74 13 rfl) rfl dX13_goes_8 ?_
              rw [S4]
              refine zJ_sipush (v := nI 200) dX13_goes_11 rfl ?_
              refine zJ_icmp_ge 156 dX13_goes_14 (by decide) (fun c14 => absurd c14 (nI_ge (by omega) (by omega))) (fun _ => ?_)
              refine zJ_aload_n dX13_goes_17 rfl ?_
              refine zJ_dup dX13_goes_18 rfl ?_
              refine zP_geti lf_X13_366 (zSt_ob hs 74 13 rfl) rfl dX13_goes_19 ?_
              rw [S4]
              refine zJ_iconst (v := nI 1) dX13_goes_22 rfl ?_
              refine zJ_iadd dX13_goes_23 ?_
              rw [nI_add]
              refine zP_puti lf_X13_366 (zSt_ob hs 74 13 rfl) rfl dX13_goes_24 ?_
              rw [hJ1]
              refine zJ_aload_n dX13_goes_27 rfl ?_
              refine zP_getr lf_X13_67 (zSt_ob hs 74 13 rfl) rfl (zSt_rf hs 74 28 452 rfl) dX13_goes_28 ?_
              refine zJ_iload_n dX13_goes_31 rfl ?_
              refine zP_rowK (k := (rn ts i)) (zSt_g452 hs) (by omega) (by decide) dX13_goes_32 ?_
              refine zJ_iconst (v := nI 0) dX13_goes_33 rfl ?_
              refine zP_iald (zGr_ar (zSt_g452 hs) (i := (rn ts i)) (by omega)) (by first | assumption | with_reducible exact vp_in_nI (by omega) (by omega) | (simp (disch := omega) only [nI_add, pk_mul, pk_sub, pk_div, pk_rem, nI_clamp]; with_reducible exact vp_in_nI (by omega) (by omega))) dX13_goes_34 ?_
              rw [nI_clamp (by omega), hk0]
              refine zJ_bipush (v := nI 6) dX13_goes_35 rfl ?_
              refine zJ_icmp_ne 90 dX13_goes_37 (by decide) (fun _ => ?_) (fun c37 => absurd c37 (fun z => by have := (nI_eq (by omega) (by omega)).mp z; omega))
              refine zJ_aload_n dX13_goes_90 rfl ?_
              refine zJ_aload_n dX13_goes_91 rfl ?_
              refine zP_getr lf_X13_70 (zSt_ob hs 74 13 rfl) rfl (zSt_rf hs 74 30 533 rfl) dX13_goes_92 ?_
              refine zJ_aload_n dX13_goes_95 rfl ?_
              refine zP_getr lf_X13_67 (zSt_ob hs 74 13 rfl) rfl (zSt_rf hs 74 28 452 rfl) dX13_goes_96 ?_
              refine zJ_iload_n dX13_goes_99 rfl ?_
              refine zP_rowK (k := (rn ts i)) (zSt_g452 hs) (by omega) (by decide) dX13_goes_100 ?_
              refine zP_ecallVi [_, _] _ lv_X13_372 (m_does (d := d - 1) hl (by omega) hs hBJ1 ha (by omega) (zGr_ar (zSt_g452 hs) (by omega)) hS1.1 S2 hg t1 r2) (zSt_ob hs 74 13 rfl) rfl (by omega) (Nat.le_of_ble_eq_true rfl) rfl dX13_goes_101 (fun v J2 h2 => ?_)
              obtain ⟨rfl, f2, p2⟩ := h2
              have hf2 : fG J1 J2 := fG_rS f2
              have e74 : J2 74 = J1 74 := f2 74 (by decide) (by decide) (by decide) (by decide) (by decide) (by decide)
              rw [show perB b (s.1 + 1, s.2).2.2.2 (tk ts i).1 (tk ts i).2.1 (tk ts i).2.2 = true from hpb]
              refine zJ_istore dX13_goes_104 (Nat.le_of_ble_eq_true rfl) (by decide) ?_
              refine zJ_aload_n dX13_goes_106 rfl ?_
              refine zJ_dup dX13_goes_107 rfl ?_
              refine zP_geti lf_X13_376 (zSt_ob hs 74 13 rfl) rfl dX13_goes_108 ?_
              rw [e74, hS1.2.2.2.2.1]
              refine zJ_iload dX13_goes_111 rfl ?_
              refine zJ_if_eq 120 dX13_goes_113 (by decide) (fun c113 => absurd c113 (by decide)) (fun _ => ?_)
              refine zJ_iconst (v := nI 1) dX13_goes_116 rfl ?_
              refine zJ_goto 121 dX13_goes_117 (by decide) ?_
              refine zJ_iadd dX13_goes_121 ?_
              rw [nI_add]
              refine zP_puti lf_X13_376 (zSt_ob hs 74 13 rfl) rfl dX13_goes_122 ?_
              refine zJ_aload_n dX13_goes_125 rfl ?_
              refine zJ_dup dX13_goes_126 rfl ?_
              refine zP_geti lf_X13_221 (zSt_ob hs 74 13 rfl) rfl dX13_goes_127 ?_
              rw [zup_same, upd_ne (by decide), e74, hS1.2.2.2.2.2]
              refine zJ_iload dX13_goes_130 rfl ?_
              refine zJ_if_eq 139 dX13_goes_132 (by decide) (fun c132 => absurd c132 (by decide)) (fun _ => ?_)
              refine zJ_iconst (v := nI 0) dX13_goes_135 rfl ?_
              refine zJ_goto 140 dX13_goes_136 (by decide) ?_
              refine zJ_iadd dX13_goes_140 ?_
              rw [nI_add]
              refine zP_puti lf_X13_221 (zSt_ob hs 74 13 rfl) rfl dX13_goes_141 ?_
              refine zJ_aload_n dX13_goes_144 rfl ?_
              refine zP_getr lf_X13_67 (zSt_ob hs 74 13 rfl) rfl (zSt_rf hs 74 28 452 rfl) dX13_goes_145 ?_
              refine zJ_iload_n dX13_goes_148 rfl ?_
              refine zP_rowK (k := (rn ts i)) (zSt_g452 hs) (by omega) (by decide) dX13_goes_149 ?_
              refine zJ_iconst (v := nI 3) dX13_goes_150 rfl ?_
              refine zP_iald (zGr_ar (zSt_g452 hs) (i := (rn ts i)) (by omega)) (by first | assumption | with_reducible exact vp_in_nI (by omega) (by omega) | (simp (disch := omega) only [nI_add, pk_mul, pk_sub, pk_div, pk_rem, nI_clamp]; with_reducible exact vp_in_nI (by omega) (by omega))) dX13_goes_151 ?_
              have hpr : prm b (tk ts i) (s.1 + 1, s.2) = (s.1 + 1, s.2.1 + 1, s.2.2.1 + 0, perM b s.2.2.2 (tk ts i).1 (tk ts i).2.1 (tk ts i).2.2) := by unfold prm; rw [show perB b (s.1 + 1, s.2).2.2.2 (tk ts i).1 (tk ts i).2.1 (tk ts i).2.2 = true from hpb]; rfl
              obtain ⟨K, hK⟩ : ∃ K, zup (zup J2 74 44 (nI (s.2.1 + 1))) 74 37 (nI (s.2.2.1 + 0)) = K := ⟨_, rfl⟩
              have eK : ∀ a, a ≠ 74 → K a = J2 a := fun a q => by rw [← hK, zup_row q, zup_row q]
              have hfK : fG I K := by rw [← hK]; exact fG_74 (fG_74 (fG_trans hfJ1 hf2) (by omega)) (by omega)
              have hr3 : K (452 + 1 + rn ts i) 3 = nI (rn ts i + 1) := by rw [eK _ (by omega), hf2.1 _ (by omega) (by omega) (by omega) (by omega) (by omega)]; exact r3
              have hSK : gS K b (prm b (tk ts i) (s.1 + 1, s.2)) := by
                rw [hpr]
                refine ⟨rRow_of p2 (eK 533 (by decide)), okR_tk hb hg S2 t1, by show s.1 + 1 ≤ 200; omega, ?_, ?_, ?_⟩
                · rw [← hK, zup_same, upd_ne (by decide), zup_same, upd_ne (by decide), e74]; exact g43
                · rw [← hK, zup_same, upd_ne (by decide), zup_same, upd_at]
                · rw [← hK, zup_same, upd_at]
              have IH := ih (by omega) m (i + 1) _ K hfK hSK t2 he
              rw [hri] at IH
              first
                | rw [hK]
                | skip
              rw [nI_clamp (by omega), hr3]
              refine zJ_istore_m 3 dX13_goes_152 rfl (Nat.le_of_ble_eq_true rfl) (by decide) ?_
              refine zJ_goto 2 dX13_goes_153 (by decide) ?_
              exact zJ_back (zle_r (zle_r (zle_r (zle_r (zle_n zle_0))))) rfl IH
            | false =>
              refine zJ_iload_n dX13_goes_2 rfl ?_
              refine zJ_iload_n dX13_goes_3 rfl ?_
              refine zJ_icmp_ge 156 dX13_goes_4 (by decide) (fun c4 => absurd c4 (nI_ge (by omega) (by omega))) (fun _ => ?_)
              refine zJ_aload_n dX13_goes_7 rfl ?_
              refine zP_geti lf_X13_366 (zSt_ob hs 74 13 rfl) rfl dX13_goes_8 ?_
              rw [S4]
              refine zJ_sipush (v := nI 200) dX13_goes_11 rfl ?_
              refine zJ_icmp_ge 156 dX13_goes_14 (by decide) (fun c14 => absurd c14 (nI_ge (by omega) (by omega))) (fun _ => ?_)
              refine zJ_aload_n dX13_goes_17 rfl ?_
              refine zJ_dup dX13_goes_18 rfl ?_
              refine zP_geti lf_X13_366 (zSt_ob hs 74 13 rfl) rfl dX13_goes_19 ?_
              rw [S4]
              refine zJ_iconst (v := nI 1) dX13_goes_22 rfl ?_
              refine zJ_iadd dX13_goes_23 ?_
              rw [nI_add]
              refine zP_puti lf_X13_366 (zSt_ob hs 74 13 rfl) rfl dX13_goes_24 ?_
              rw [hJ1]
              refine zJ_aload_n dX13_goes_27 rfl ?_
              refine zP_getr lf_X13_67 (zSt_ob hs 74 13 rfl) rfl (zSt_rf hs 74 28 452 rfl) dX13_goes_28 ?_
              refine zJ_iload_n dX13_goes_31 rfl ?_
              refine zP_rowK (k := (rn ts i)) (zSt_g452 hs) (by omega) (by decide) dX13_goes_32 ?_
              refine zJ_iconst (v := nI 0) dX13_goes_33 rfl ?_
              refine zP_iald (zGr_ar (zSt_g452 hs) (i := (rn ts i)) (by omega)) (by first | assumption | with_reducible exact vp_in_nI (by omega) (by omega) | (simp (disch := omega) only [nI_add, pk_mul, pk_sub, pk_div, pk_rem, nI_clamp]; with_reducible exact vp_in_nI (by omega) (by omega))) dX13_goes_34 ?_
              rw [nI_clamp (by omega), hk0]
              refine zJ_bipush (v := nI 6) dX13_goes_35 rfl ?_
              refine zJ_icmp_ne 90 dX13_goes_37 (by decide) (fun _ => ?_) (fun c37 => absurd c37 (fun z => by have := (nI_eq (by omega) (by omega)).mp z; omega))
              refine zJ_aload_n dX13_goes_90 rfl ?_
              refine zJ_aload_n dX13_goes_91 rfl ?_
              refine zP_getr lf_X13_70 (zSt_ob hs 74 13 rfl) rfl (zSt_rf hs 74 30 533 rfl) dX13_goes_92 ?_
              refine zJ_aload_n dX13_goes_95 rfl ?_
              refine zP_getr lf_X13_67 (zSt_ob hs 74 13 rfl) rfl (zSt_rf hs 74 28 452 rfl) dX13_goes_96 ?_
              refine zJ_iload_n dX13_goes_99 rfl ?_
              refine zP_rowK (k := (rn ts i)) (zSt_g452 hs) (by omega) (by decide) dX13_goes_100 ?_
              refine zP_ecallVi [_, _] _ lv_X13_372 (m_does (d := d - 1) hl (by omega) hs hBJ1 ha (by omega) (zGr_ar (zSt_g452 hs) (by omega)) hS1.1 S2 hg t1 r2) (zSt_ob hs 74 13 rfl) rfl (by omega) (Nat.le_of_ble_eq_true rfl) rfl dX13_goes_101 (fun v J2 h2 => ?_)
              obtain ⟨rfl, f2, p2⟩ := h2
              have hf2 : fG J1 J2 := fG_rS f2
              have e74 : J2 74 = J1 74 := f2 74 (by decide) (by decide) (by decide) (by decide) (by decide) (by decide)
              rw [show perB b (s.1 + 1, s.2).2.2.2 (tk ts i).1 (tk ts i).2.1 (tk ts i).2.2 = false from hpb]
              refine zJ_istore dX13_goes_104 (Nat.le_of_ble_eq_true rfl) (by decide) ?_
              refine zJ_aload_n dX13_goes_106 rfl ?_
              refine zJ_dup dX13_goes_107 rfl ?_
              refine zP_geti lf_X13_376 (zSt_ob hs 74 13 rfl) rfl dX13_goes_108 ?_
              rw [e74, hS1.2.2.2.2.1]
              refine zJ_iload dX13_goes_111 rfl ?_
              refine zJ_if_eq 120 dX13_goes_113 (by decide) (fun _ => ?_) (fun c113 => absurd rfl c113)
              refine zJ_iconst (v := nI 0) dX13_goes_120 rfl ?_
              refine zJ_iadd dX13_goes_121 ?_
              rw [nI_add]
              refine zP_puti lf_X13_376 (zSt_ob hs 74 13 rfl) rfl dX13_goes_122 ?_
              refine zJ_aload_n dX13_goes_125 rfl ?_
              refine zJ_dup dX13_goes_126 rfl ?_
              refine zP_geti lf_X13_221 (zSt_ob hs 74 13 rfl) rfl dX13_goes_127 ?_
              rw [zup_same, upd_ne (by decide), e74, hS1.2.2.2.2.2]
              refine zJ_iload dX13_goes_130 rfl ?_
              refine zJ_if_eq 139 dX13_goes_132 (by decide) (fun _ => ?_) (fun c132 => absurd rfl c132)
              refine zJ_iconst (v := nI 1) dX13_goes_139 rfl ?_
              refine zJ_iadd dX13_goes_140 ?_
              rw [nI_add]
              refine zP_puti lf_X13_221 (zSt_ob hs 74 13 rfl) rfl dX13_goes_141 ?_
              refine zJ_aload_n dX13_goes_144 rfl ?_
              refine zP_getr lf_X13_67 (zSt_ob hs 74 13 rfl) rfl (zSt_rf hs 74 28 452 rfl) dX13_goes_145 ?_
              refine zJ_iload_n dX13_goes_148 rfl ?_
              refine zP_rowK (k := (rn ts i)) (zSt_g452 hs) (by omega) (by decide) dX13_goes_149 ?_
              refine zJ_iconst (v := nI 3) dX13_goes_150 rfl ?_
              refine zP_iald (zGr_ar (zSt_g452 hs) (i := (rn ts i)) (by omega)) (by first | assumption | with_reducible exact vp_in_nI (by omega) (by omega) | (simp (disch := omega) only [nI_add, pk_mul, pk_sub, pk_div, pk_rem, nI_clamp]; with_reducible exact vp_in_nI (by omega) (by omega))) dX13_goes_151 ?_
              have hpr : prm b (tk ts i) (s.1 + 1, s.2) = (s.1 + 1, s.2.1 + 0, s.2.2.1 + 1, perM b s.2.2.2 (tk ts i).1 (tk ts i).2.1 (tk ts i).2.2) := by unfold prm; rw [show perB b (s.1 + 1, s.2).2.2.2 (tk ts i).1 (tk ts i).2.1 (tk ts i).2.2 = false from hpb]; rfl
              obtain ⟨K, hK⟩ : ∃ K, zup (zup J2 74 44 (nI (s.2.1 + 0))) 74 37 (nI (s.2.2.1 + 1)) = K := ⟨_, rfl⟩
              have eK : ∀ a, a ≠ 74 → K a = J2 a := fun a q => by rw [← hK, zup_row q, zup_row q]
              have hfK : fG I K := by rw [← hK]; exact fG_74 (fG_74 (fG_trans hfJ1 hf2) (by omega)) (by omega)
              have hr3 : K (452 + 1 + rn ts i) 3 = nI (rn ts i + 1) := by rw [eK _ (by omega), hf2.1 _ (by omega) (by omega) (by omega) (by omega) (by omega)]; exact r3
              have hSK : gS K b (prm b (tk ts i) (s.1 + 1, s.2)) := by
                rw [hpr]
                refine ⟨rRow_of p2 (eK 533 (by decide)), okR_tk hb hg S2 t1, by show s.1 + 1 ≤ 200; omega, ?_, ?_, ?_⟩
                · rw [← hK, zup_same, upd_ne (by decide), zup_same, upd_ne (by decide), e74]; exact g43
                · rw [← hK, zup_same, upd_ne (by decide), zup_same, upd_at]
                · rw [← hK, zup_same, upd_at]
              have IH := ih (by omega) m (i + 1) _ K hfK hSK t2 he
              rw [hri] at IH
              first
                | rw [hK]
                | skip
              rw [nI_clamp (by omega), hr3]
              refine zJ_istore_m 3 dX13_goes_152 rfl (Nat.le_of_ble_eq_true rfl) (by decide) ?_
              refine zJ_goto 2 dX13_goes_153 (by decide) ?_
              exact zJ_back (zle_r (zle_r (zle_r (zle_r (zle_n zle_0))))) rfl IH
  rw [← hP]
  refine zJ_iload_n dX13_goes_0 rfl ?_
  refine zJ_istore_m 3 dX13_goes_1 rfl (Nat.le_of_ble_eq_true rfl) (by decide) ?_
  exact zJ_back (zle_r (zle_r (zle_r (zle_r (zle_n zle_0))))) rfl (loop2 F (Nat.le_refl _) n0 i0 s0 I fG_rfl hS0 hsq0 hex0)
end ZRefAS
