/-! ===== Work.run ===== -/
section ZRun
variable {l : Launch} {Xi : zXi} {d : Nat} {I : zI} {g : zG}
def fRn (I J : zI) : Prop := ∀ a, a ≠ 35 → a ≠ 40 → a ≠ 22 → a ≠ 24 → a ≠ 42 → a ≠ 44 → a ≠ 45 → a ≠ 46 → a ≠ 47 → a ≠ 48 → (a < 62 ∨ 67 < a) → J a = I a
theorem fRn_36 {J : zI} (h : fRn I J) : J 36 = I 36 ∧ J 37 = I 37 ∧ J 38 = I 38 := ⟨h 36 (by decide) (by decide) (by decide) (by decide) (by decide) (by decide) (by decide) (by decide) (by decide) (by decide) (by decide), h 37 (by decide) (by decide) (by decide) (by decide) (by decide) (by decide) (by decide) (by decide) (by decide) (by decide) (by decide), h 38 (by decide) (by decide) (by decide) (by decide) (by decide) (by decide) (by decide) (by decide) (by decide) (by decide) (by decide)⟩
def runI (b : zWo) (I J : zI) (s : xs) (lf : Nat → Nat) (dp : Nat) : Prop := fRn I J ∧ (∀ k, k ≠ 0 → J 35 k = I 35 k) ∧ J 35 0 = nI s.2.2.1 ∧ (∀ i, i < dp → J 40 i = nI (lf i)) ∧ zWi J b ∧ zRow J 62 s.2.2.2 ∧ okR b s.2.2.2
def sumN (f : Nat → Nat) : Nat → Nat
  | 0 => 0
  | k + 1 => sumN f k + f k
theorem sumN_un {f : Nat → Nat} {n x : Nat} : ∀ {k : Nat}, k ≤ n → sumN (un f n x) k = sumN f k
  | 0, _ => rfl
  | k + 1, h => by simp only [sumN]; rw [sumN_un (by omega), un_ne (by omega)]
theorem zWi_zup {J : zI} {b : zWo} {a k : Nat} {x : Int32} (h : zWi J b) (ha : a ≠ 3 ∧ a ≠ 5 ∧ a ≠ 6 ∧ a ≠ 7 ∧ a ≠ 8 ∧ a ≠ 9 ∧ a ≠ 11 ∧ a ≠ 21 ∧ a ≠ 23) : zWi (zup J a k x) b := by
  obtain ⟨n3, n5, n6, n7, n8, n9, n11, n21, n23⟩ := ha
  unfold zWi zBd at *
  rw [zup_row (Ne.symm n3), zup_row (Ne.symm n5), zup_row (show 3 + 3 ≠ a from Ne.symm n6), zup_row (show 3 + 4 ≠ a from Ne.symm n7), zup_row (Ne.symm n8), zup_row (Ne.symm n9), zup_row (Ne.symm n11), zup_row (Ne.symm n21), zup_row (Ne.symm n23)]
  exact h
theorem zRow_zup {J : zI} {R : Nat → Int32} {s a k : Nat} {x : Int32} (h : zRow J s R) (ha : a < s ∨ s + 5 < a) : zRow (zup J a k x) s R := zRow_of h (fun q h1 h2 => zup_row (by omega))
set_option maxHeartbeats 4000000 in
theorem k_run (hl : l.stackTraces = false) (hd : 8 ≤ d) (hs : zSt g) {b : zWo} {R : Nat → Int32} {ts : List tok} {ops : Nat → Nat} {FIN : xs} {n f : Nat} (hW : zWi I b) (hg : gnOk b) (hR : zRow I 62 R) (hok : okR b R) (hw : wk I ts 0 ops) (hsq : sqOk (bN b) (bC b) (bR b) ts n 0 0 ts.length) (hkl : ∀ i, i < ts.length → (tk ts i).1 ≤ 7) (hcl : ∀ i, i < ts.length → (tk ts i).1 = 7 → (tk ts i).2.1 < ts.length) (hex : exW b ts f 0 0 0 ts.length (0, 0, 0, R) = some FIN) : zEi l Xi mX11_run d [.ref 35, .ref 43, .ref 62] I g (fun x J => x = nI FIN.2.1 ∧ fRn I J ∧ (∀ k, k ≠ 0 → J 35 k = I 35 k) ∧ J 35 0 = nI FIN.2.2.1 ∧ zWi J b ∧ zRow J 62 FIN.2.2.2 ∧ okR b FIN.2.2.2) := by
  refine zC_of hl rfl rfl rfl (Nat.le_of_ble_eq_true rfl) (zav_r (zSt_ob hs 35 11 rfl).1 (zav_r (zSt_ob hs 43 6 rfl).1 (zav_r (zSt_ob hs 62 8 rfl).1 zav_0))) ?_
  have hC8 := hW.1.2.1
  have hR8 := hW.1.2.2.2.1
  have hN6 := hW.1.2.2.2.2.1
  obtain ⟨w1, w2, w3, -⟩ := hw
  obtain ⟨HD, hHD⟩ : ∃ HD : zI → xs → Nat → Nat → Nat → Prop, ∀ J s dp at_ it, HD J s dp at_ it = zJ l Xi mX11_run d 0 0 19 [some (.ref 35), some (.ref 43), some (.ref 62), some (.int (nI s.1)), some (.int (nI s.2.1)), some (.int (nI dp)), some (.int (nI at_)), some (.int (nI it)), none, none] [] (J, g) (fun r' h' => ∃ x J, r' = .inl (some (.int x)) ∧ h' = (J, g) ∧ x = nI FIN.2.1 ∧ fRn I J ∧ (∀ k, k ≠ 0 → J 35 k = I 35 k) ∧ J 35 0 = nI FIN.2.2.1 ∧ zWi J b ∧ zRow J 62 FIN.2.2.2 ∧ okR b FIN.2.2.2) := ⟨fun J s dp at_ it => _, fun J s dp at_ it => rfl⟩
  have fin : ∀ (J : zI) (s : xs) (lf : Nat → Nat) (dp : Nat), s.2 = FIN.2 → runI b I J s lf dp → fRn I J ∧ (∀ k, k ≠ 0 → J 35 k = I 35 k) ∧ J 35 0 = nI FIN.2.2.1 ∧ zWi J b ∧ zRow J 62 FIN.2.2.2 ∧ okR b FIN.2.2.2 := by
    intro J s lf dp he h
    rw [← he]
    exact ⟨h.1, h.2.1, h.2.2.1, h.2.2.2.2⟩
  have hlen : ∀ {J : zI} {s : xs} {lf : Nat → Nat} {dp : Nat}, runI b I J s lf dp → J 35 1 = nI ts.length := fun h => by rw [h.2.1 1 (by decide)]; exact w1
  have hkd : ∀ {J : zI} {s : xs} {lf : Nat → Nat} {dp i : Nat}, runI b I J s lf dp → i < ts.length → J 36 i = nI (tk ts i).1 ∧ J 37 i = nI (tk ts i).2.1 ∧ J 38 i = nI (tk ts i).2.2 := fun h hi => by
    obtain ⟨e1, e2, e3⟩ := fRn_36 h.1
    rw [e1, e2, e3]
    exact w3 _ hi
  have hkeq : ∀ i, i < ts.length → nI (tk ts i).1 = nI 7 → (tk ts i).1 = 7 := fun i hi h => (nI_eq (by have := hkl i hi; omega) (by omega)).mp h
  have closeC : ∀ (J : zI) (s : xs) (lf : Nat → Nat) (dp at_ it k : Nat), runI b I J s lf (dp + 1) → lf dp = k → 1 ≤ k → k ≤ 40 → dp ≤ 5 → at_ < ts.length → (tk ts at_).1 = 7 → it < 10000 → (k = 1 → ∀ J', runI b I J' s lf dp → HD J' s dp (at_ + 1) (it + 1)) → (2 ≤ k → ∀ J', runI b I J' s (un lf dp (k - 1)) (dp + 1) → HD J' s (dp + 1) ((tk ts at_).2.1 + 1) (it + 1)) → HD J s (dp + 1) at_ it := by
    intro J s lf dp at_ it k hI hk k1 k40 dp5 hat h7 hit H1 H2
    rw [hHD]
    have hk9 := (hkd hI hat)
    have hlf := hI.2.2.2.1 dp (by omega)
    rw [hk] at hlf
    have hJ2 : ∀ m : Nat, runI b I (zup J 40 dp (nI (k - 1))) s (un lf dp (k - 1)) (dp + 1) := fun m => by
      obtain ⟨i1, i2, i3, i4, i5, i6, i7⟩ := hI
      refine ⟨fun a q1 q2 q3 q4 q5 q6 q7 q8 q9 q10 q11 => by rw [zup_row q2]; exact i1 a q1 q2 q3 q4 q5 q6 q7 q8 q9 q10 q11, fun k hk => by rw [zup_row (by decide)]; exact i2 k hk, by rw [zup_row (by decide)]; exact i3, fun i hi => ?_, zWi_zup i5 (by decide), zRow_zup i6 (by decide), i7⟩
      rw [zup_same]
      by_cases z : i = dp
      · rw [z, upd_at, un_at]
      · rw [upd_ne z, un_ne z]; exact i4 i hi
    by_cases kk : k = 1
    · have hJ3 : runI b I (zup J 40 dp (nI (k - 1))) s lf dp := by
        obtain ⟨i1, i2, i3, i4, i5, i6, i7⟩ := hJ2 0
        exact ⟨i1, i2, i3, fun i hi => by rw [i4 i (by omega), un_ne (by omega)], i5, i6, i7⟩
      refine zJ_iload dX11_run_19 rfl ?_
      refine zJ_sipush (v := nI 10000) dX11_run_21 rfl ?_
      refine zJ_icmp_ge 257 dX11_run_24 (by decide) (fun c24 => absurd c24 (nI_ge (by omega) (by omega))) (fun _ => ?_)
      refine zJ_iload dX11_run_27 rfl ?_
      refine zJ_aload_n dX11_run_29 rfl ?_
      refine zP_geti lf_X11_27 (zSt_ob hs 35 11 rfl) rfl dX11_run_30 ?_
      rw [hlen hI]
      refine zJ_icmp_ge 257 dX11_run_33 (by decide) (fun c33 => absurd c33 (nI_ge (by omega) (by omega))) (fun _ => ?_)
      refine zJ_aload_n dX11_run_36 rfl ?_
      refine zP_getr lf_X11_9 (zSt_ob hs 35 11 rfl) rfl (zSt_rf hs 35 3 36 rfl) dX11_run_37 ?_
      refine zJ_iload dX11_run_40 rfl ?_
      refine zP_iald (zSt_ar hs 36 150 rfl) (by first | assumption | with_reducible exact vp_in_nI (by omega) (by omega) | (simp (disch := omega) only [nI_add, pk_mul, pk_sub, pk_div, pk_rem, nI_clamp]; with_reducible exact vp_in_nI (by omega) (by omega))) dX11_run_42 ?_
      rw [nI_clamp (by omega), hk9.1, h7]
      refine zJ_istore dX11_run_43 (Nat.le_of_ble_eq_true rfl) (by decide) ?_
      refine zJ_iload dX11_run_45 rfl ?_
      refine zJ_bipush (v := nI 7) dX11_run_47 rfl ?_
      refine zJ_icmp_ne 130 dX11_run_49 (by decide) (fun c49 => absurd rfl c49) (fun _ => ?_)
      refine zJ_iload dX11_run_52 rfl ?_
      refine zJ_if_le 130 dX11_run_54 (by decide) (fun c54 => absurd c54 (nI_nle (by omega) (by omega))) (fun _ => ?_)
      refine zJ_aload_n dX11_run_57 rfl ?_
      refine zP_getr lf_X11_24 (zSt_ob hs 35 11 rfl) rfl (zSt_rf hs 35 7 40 rfl) dX11_run_58 ?_
      refine zJ_iload dX11_run_61 rfl ?_
      refine zJ_iconst (v := nI 1) dX11_run_63 rfl ?_
      refine zJ_isub dX11_run_64 ?_
      rw [pk_sub (by omega), Nat.add_sub_cancel]
      refine zJ_dup2 dX11_run_65 rfl rfl ?_
      refine zP_iald (zSt_ar hs 40 6 rfl) (by first | assumption | with_reducible exact vp_in_nI (by omega) (by omega) | (simp (disch := omega) only [nI_add, pk_mul, pk_sub, pk_div, pk_rem, nI_clamp]; with_reducible exact vp_in_nI (by omega) (by omega))) dX11_run_66 ?_
      rw [nI_clamp (by omega), hlf]
      refine zJ_iconst (v := nI 1) dX11_run_67 rfl ?_
      refine zJ_isub dX11_run_68 ?_
      rw [pk_sub (by omega)]
      refine zP_iast (zSt_ar hs 40 6 rfl) (by first | assumption | with_reducible exact vp_in_nI (by omega) (by omega) | (simp (disch := omega) only [nI_add, pk_mul, pk_sub, pk_div, pk_rem, nI_clamp]; with_reducible exact vp_in_nI (by omega) (by omega))) dX11_run_69 ?_
      rw [nI_clamp (by omega)]
      refine zJ_aload_n dX11_run_70 rfl ?_
      refine zP_getr lf_X11_24 (zSt_ob hs 35 11 rfl) rfl (zSt_rf hs 35 7 40 rfl) dX11_run_71 ?_
      refine zJ_iload dX11_run_74 rfl ?_
      refine zJ_iconst (v := nI 1) dX11_run_76 rfl ?_
      refine zJ_isub dX11_run_77 ?_
      rw [pk_sub (by omega), Nat.add_sub_cancel]
      refine zP_iald (zSt_ar hs 40 6 rfl) (by first | assumption | with_reducible exact vp_in_nI (by omega) (by omega) | (simp (disch := omega) only [nI_add, pk_mul, pk_sub, pk_div, pk_rem, nI_clamp]; with_reducible exact vp_in_nI (by omega) (by omega))) dX11_run_78 ?_
      rw [zup_same, nI_clamp (by omega), upd_at]
      refine zJ_if_le 86 dX11_run_79 (by decide) (fun _ => ?_) (fun c79 => absurd (by rw [kk]; decide) c79)
      refine zJ_iconst (v := nI 0) dX11_run_86 rfl ?_
      refine zJ_istore dX11_run_87 (Nat.le_of_ble_eq_true rfl) (by decide) ?_
      refine zJ_iload dX11_run_89 rfl ?_
      refine zJ_iload dX11_run_91 rfl ?_
      refine zJ_if_eq 100 dX11_run_93 (by decide) (fun _ => ?_) (fun c93 => absurd rfl c93)
      refine zJ_iconst (v := nI 1) dX11_run_100 rfl ?_
      refine zJ_isub dX11_run_101 ?_
      rw [pk_sub (by omega), Nat.add_sub_cancel]
      refine zJ_istore dX11_run_102 (Nat.le_of_ble_eq_true rfl) (by decide) ?_
      refine zJ_iload dX11_run_104 rfl ?_
      refine zJ_if_eq 121 dX11_run_106 (by decide) (fun _ => ?_) (fun c106 => absurd rfl c106)
      refine zJ_iload dX11_run_121 rfl ?_
      refine zJ_iconst (v := nI 1) dX11_run_123 rfl ?_
      refine zJ_iadd dX11_run_124 ?_
      rw [nI_add]
      refine zJ_istore dX11_run_125 (Nat.le_of_ble_eq_true rfl) (by decide) ?_
      refine zJ_goto 251 dX11_run_127 (by decide) ?_
      refine zJ_iinc1 dX11_run_251 rfl (by decide) ?_
      refine zJ_goto 19 dX11_run_254 (by decide) ?_
      have h9 := H1 kk _ hJ3
      rw [hHD] at h9
      exact zJ_back (zle_r (zle_r (zle_r (zle_r (zle_r (zle_r (zle_r (zle_r (zle_n (zle_n zle_0)))))))))) rfl h9
    · skip
      refine zJ_iload dX11_run_19 rfl ?_
      refine zJ_sipush (v := nI 10000) dX11_run_21 rfl ?_
      refine zJ_icmp_ge 257 dX11_run_24 (by decide) (fun c24 => absurd c24 (nI_ge (by omega) (by omega))) (fun _ => ?_)
      refine zJ_iload dX11_run_27 rfl ?_
      refine zJ_aload_n dX11_run_29 rfl ?_
      refine zP_geti lf_X11_27 (zSt_ob hs 35 11 rfl) rfl dX11_run_30 ?_
      rw [hlen hI]
      refine zJ_icmp_ge 257 dX11_run_33 (by decide) (fun c33 => absurd c33 (nI_ge (by omega) (by omega))) (fun _ => ?_)
      refine zJ_aload_n dX11_run_36 rfl ?_
      refine zP_getr lf_X11_9 (zSt_ob hs 35 11 rfl) rfl (zSt_rf hs 35 3 36 rfl) dX11_run_37 ?_
      refine zJ_iload dX11_run_40 rfl ?_
      refine zP_iald (zSt_ar hs 36 150 rfl) (by first | assumption | with_reducible exact vp_in_nI (by omega) (by omega) | (simp (disch := omega) only [nI_add, pk_mul, pk_sub, pk_div, pk_rem, nI_clamp]; with_reducible exact vp_in_nI (by omega) (by omega))) dX11_run_42 ?_
      rw [nI_clamp (by omega), hk9.1, h7]
      refine zJ_istore dX11_run_43 (Nat.le_of_ble_eq_true rfl) (by decide) ?_
      refine zJ_iload dX11_run_45 rfl ?_
      refine zJ_bipush (v := nI 7) dX11_run_47 rfl ?_
      refine zJ_icmp_ne 130 dX11_run_49 (by decide) (fun c49 => absurd rfl c49) (fun _ => ?_)
      refine zJ_iload dX11_run_52 rfl ?_
      refine zJ_if_le 130 dX11_run_54 (by decide) (fun c54 => absurd c54 (nI_nle (by omega) (by omega))) (fun _ => ?_)
      refine zJ_aload_n dX11_run_57 rfl ?_
      refine zP_getr lf_X11_24 (zSt_ob hs 35 11 rfl) rfl (zSt_rf hs 35 7 40 rfl) dX11_run_58 ?_
      refine zJ_iload dX11_run_61 rfl ?_
      refine zJ_iconst (v := nI 1) dX11_run_63 rfl ?_
      refine zJ_isub dX11_run_64 ?_
      rw [pk_sub (by omega), Nat.add_sub_cancel]
      refine zJ_dup2 dX11_run_65 rfl rfl ?_
      refine zP_iald (zSt_ar hs 40 6 rfl) (by first | assumption | with_reducible exact vp_in_nI (by omega) (by omega) | (simp (disch := omega) only [nI_add, pk_mul, pk_sub, pk_div, pk_rem, nI_clamp]; with_reducible exact vp_in_nI (by omega) (by omega))) dX11_run_66 ?_
      rw [nI_clamp (by omega), hlf]
      refine zJ_iconst (v := nI 1) dX11_run_67 rfl ?_
      refine zJ_isub dX11_run_68 ?_
      rw [pk_sub (by omega)]
      refine zP_iast (zSt_ar hs 40 6 rfl) (by first | assumption | with_reducible exact vp_in_nI (by omega) (by omega) | (simp (disch := omega) only [nI_add, pk_mul, pk_sub, pk_div, pk_rem, nI_clamp]; with_reducible exact vp_in_nI (by omega) (by omega))) dX11_run_69 ?_
      rw [nI_clamp (by omega)]
      refine zJ_aload_n dX11_run_70 rfl ?_
      refine zP_getr lf_X11_24 (zSt_ob hs 35 11 rfl) rfl (zSt_rf hs 35 7 40 rfl) dX11_run_71 ?_
      refine zJ_iload dX11_run_74 rfl ?_
      refine zJ_iconst (v := nI 1) dX11_run_76 rfl ?_
      refine zJ_isub dX11_run_77 ?_
      rw [pk_sub (by omega), Nat.add_sub_cancel]
      refine zP_iald (zSt_ar hs 40 6 rfl) (by first | assumption | with_reducible exact vp_in_nI (by omega) (by omega) | (simp (disch := omega) only [nI_add, pk_mul, pk_sub, pk_div, pk_rem, nI_clamp]; with_reducible exact vp_in_nI (by omega) (by omega))) dX11_run_78 ?_
      rw [zup_same, nI_clamp (by omega), upd_at]
      refine zJ_if_le 86 dX11_run_79 (by decide) (fun c79 => absurd c79 (nI_nle (by omega) (by omega))) (fun _ => ?_)
      refine zJ_iconst (v := nI 1) dX11_run_82 rfl ?_
      refine zJ_goto 87 dX11_run_83 (by decide) ?_
      refine zJ_istore dX11_run_87 (Nat.le_of_ble_eq_true rfl) (by decide) ?_
      refine zJ_iload dX11_run_89 rfl ?_
      refine zJ_iload dX11_run_91 rfl ?_
      refine zJ_if_eq 100 dX11_run_93 (by decide) (fun c93 => absurd c93 (by decide)) (fun _ => ?_)
      refine zJ_iconst (v := nI 0) dX11_run_96 rfl ?_
      refine zJ_goto 101 dX11_run_97 (by decide) ?_
      refine zJ_isub dX11_run_101 ?_
      rw [pk_sub (by omega), Nat.sub_zero]
      refine zJ_istore dX11_run_102 (Nat.le_of_ble_eq_true rfl) (by decide) ?_
      refine zJ_iload dX11_run_104 rfl ?_
      refine zJ_if_eq 121 dX11_run_106 (by decide) (fun c106 => absurd c106 (by decide)) (fun _ => ?_)
      refine zJ_aload_n dX11_run_109 rfl ?_
      refine zP_getr lf_X11_15 (zSt_ob hs 35 11 rfl) rfl (zSt_rf hs 35 4 37 rfl) dX11_run_110 ?_
      refine zJ_iload dX11_run_113 rfl ?_
      refine zP_iald (zSt_ar hs 37 150 rfl) (by first | assumption | with_reducible exact vp_in_nI (by omega) (by omega) | (simp (disch := omega) only [nI_add, pk_mul, pk_sub, pk_div, pk_rem, nI_clamp]; with_reducible exact vp_in_nI (by omega) (by omega))) dX11_run_115 ?_
      rw [zup_row (by decide), nI_clamp (by omega), hk9.2.1]
      refine zJ_iconst (v := nI 1) dX11_run_116 rfl ?_
      refine zJ_iadd dX11_run_117 ?_
      rw [nI_add]
      refine zJ_goto 125 dX11_run_118 (by decide) ?_
      refine zJ_istore dX11_run_125 (Nat.le_of_ble_eq_true rfl) (by decide) ?_
      refine zJ_goto 251 dX11_run_127 (by decide) ?_
      refine zJ_iinc1 dX11_run_251 rfl (by decide) ?_
      refine zJ_goto 19 dX11_run_254 (by decide) ?_
      have h9 := H2 (by omega) _ (hJ2 0)
      rw [hHD] at h9
      exact zJ_back (zle_r (zle_r (zle_r (zle_r (zle_r (zle_r (zle_r (zle_r (zle_n (zle_n zle_0)))))))))) rfl h9
  have brk : ∀ m it (J : zI) (s : xs) (lf : Nat → Nat) (dp at_ : Nat), it + m = 10000 → 200 ≤ s.1 → s.1 ≤ 300 → s.2 = FIN.2 → runI b I J s lf dp → dp ≤ 6 → at_ ≤ ts.length → (∀ i, i < dp → 1 ≤ lf i ∧ lf i ≤ 40) → HD J s dp at_ it := by
    intro m
    induction m with
    | zero =>
      intro it J s lf dp at_ hm h2 h3 he hI hdp hat hlf
      rw [hHD]
      refine zJ_iload dX11_run_19 rfl ?_
      refine zJ_sipush (v := nI 10000) dX11_run_21 rfl ?_
      refine zJ_icmp_ge 257 dX11_run_24 (by decide) (fun _ => ?_) (fun c24 => absurd (nI_le (by omega) (by omega)) c24)
      refine zJ_iload dX11_run_257 rfl ?_
      refine zJ_iret rfl dX11_run_259 ?_
      exact ⟨_, J, rfl, rfl, by rw [he], fin J s lf dp he hI⟩
    | succ m ih =>
      intro it J s lf dp at_ hm h2 h3 he hI hdp hat hlf
      by_cases hal : at_ < ts.length
      · have hk9 := (hkd hI hal)
        by_cases hc : (tk ts at_).1 = 7 ∧ 0 < dp
        · obtain ⟨h7, h0⟩ := hc
          obtain ⟨dp', rfl⟩ : ∃ dp', dp = dp' + 1 := ⟨dp - 1, by omega⟩
          have hl1 := hlf dp' (by omega)
          exact closeC J s lf dp' at_ it (lf dp') hI rfl hl1.1 hl1.2 (by omega) hal h7 (by omega) (fun k1 J' hI' => ih (it + 1) J' s lf dp' (at_ + 1) (by omega) h2 h3 he hI' (by omega) (by omega) (fun i hi => hlf i (by omega))) (fun k2 J' hI' => ih (it + 1) J' s _ (dp' + 1) _ (by omega) h2 h3 he hI' (by omega) (by have := hcl at_ hal h7; omega) (fun i hi => by
            by_cases z : i = dp'
            · rw [z, un_at]; omega
            · rw [un_ne z]; exact hlf i hi))
        · rw [hHD]
          have h130 : ∀ L9 : List (Option Value), L9 = [some (.ref 35), some (.ref 43), some (.ref 62), some (.int (nI s.1)), some (.int (nI s.2.1)), none, none, none, none, none] → zJ l Xi mX11_run d 0 0 130 L9 [] (J, g) (fun r' h' => ∃ x J, r' = .inl (some (.int x)) ∧ h' = (J, g) ∧ x = nI FIN.2.1 ∧ fRn I J ∧ (∀ k, k ≠ 0 → J 35 k = I 35 k) ∧ J 35 0 = nI FIN.2.2.1 ∧ zWi J b ∧ zRow J 62 FIN.2.2.2 ∧ okR b FIN.2.2.2) := by
            intro L9 hL9
            subst hL9
            refine zJ_iload_n dX11_run_130 rfl ?_
            refine zJ_sipush (v := nI 200) dX11_run_131 rfl ?_
            refine zJ_icmp_lt 140 dX11_run_134 (by decide) (fun c134 => absurd c134 (nI_nlt (by omega) (by omega))) (fun _ => ?_)
            refine zJ_goto 257 dX11_run_137 (by decide) ?_
            refine zJ_iload dX11_run_257 rfl ?_
            refine zJ_iret rfl dX11_run_259 ?_
            exact ⟨_, J, rfl, rfl, by rw [he], fin J s lf dp he hI⟩
          refine zJ_iload dX11_run_19 rfl ?_
          refine zJ_sipush (v := nI 10000) dX11_run_21 rfl ?_
          refine zJ_icmp_ge 257 dX11_run_24 (by decide) (fun c24 => absurd c24 (nI_ge (by omega) (by omega))) (fun _ => ?_)
          refine zJ_iload dX11_run_27 rfl ?_
          refine zJ_aload_n dX11_run_29 rfl ?_
          refine zP_geti lf_X11_27 (zSt_ob hs 35 11 rfl) rfl dX11_run_30 ?_
          rw [hlen hI]
          refine zJ_icmp_ge 257 dX11_run_33 (by decide) (fun c33 => absurd c33 (nI_ge (by omega) (by omega))) (fun _ => ?_)
          refine zJ_aload_n dX11_run_36 rfl ?_
          refine zP_getr lf_X11_9 (zSt_ob hs 35 11 rfl) rfl (zSt_rf hs 35 3 36 rfl) dX11_run_37 ?_
          refine zJ_iload dX11_run_40 rfl ?_
          refine zP_iald (zSt_ar hs 36 150 rfl) (by first | assumption | with_reducible exact vp_in_nI (by omega) (by omega) | (simp (disch := omega) only [nI_add, pk_mul, pk_sub, pk_div, pk_rem, nI_clamp]; with_reducible exact vp_in_nI (by omega) (by omega))) dX11_run_42 ?_
          rw [nI_clamp (by omega), hk9.1]
          refine zJ_istore dX11_run_43 (Nat.le_of_ble_eq_true rfl) (by decide) ?_
          refine zJ_iload dX11_run_45 rfl ?_
          refine zJ_bipush (v := nI 7) dX11_run_47 rfl ?_
          refine zJ_icmp_ne 130 dX11_run_49 (by decide) (fun c49 => ?_) (fun c49 => ?_)
          · skip
            exact zJ_back (zle_r (zle_r (zle_r (zle_r (zle_r (zle_n (zle_n (zle_n (zle_n (zle_n zle_0)))))))))) rfl (h130 _ rfl)
          · skip
            refine zJ_iload dX11_run_52 rfl ?_
            refine zJ_if_le 130 dX11_run_54 (by decide) (fun c54 => ?_) (fun c54 => ?_)
            · skip
              exact zJ_back (zle_r (zle_r (zle_r (zle_r (zle_r (zle_n (zle_n (zle_n (zle_n (zle_n zle_0)))))))))) rfl (h130 _ rfl)
            · skip
              exfalso
              refine hc ⟨?_, Nat.pos_of_ne_zero (fun z => c54 (by rw [z]; decide))⟩
              exact hkeq at_ hal c49
      · rw [hHD]
        refine zJ_iload dX11_run_19 rfl ?_
        refine zJ_sipush (v := nI 10000) dX11_run_21 rfl ?_
        refine zJ_icmp_ge 257 dX11_run_24 (by decide) (fun c24 => absurd c24 (nI_ge (by omega) (by omega))) (fun _ => ?_)
        refine zJ_iload dX11_run_27 rfl ?_
        refine zJ_aload_n dX11_run_29 rfl ?_
        refine zP_geti lf_X11_27 (zSt_ob hs 35 11 rfl) rfl dX11_run_30 ?_
        rw [hlen hI]
        refine zJ_icmp_ge 257 dX11_run_33 (by decide) (fun _ => ?_) (fun c33 => absurd (nI_le (by omega) (by omega)) c33)
        refine zJ_iload dX11_run_257 rfl ?_
        refine zJ_iret rfl dX11_run_259 ?_
        exact ⟨_, J, rfl, rfl, by rw [he], fin J s lf dp he hI⟩
  have main : ∀ f, (∀ (n i j dp it : Nat) (s s' : xs) (J : zI) (lf : Nat → Nat), sqOk (bN b) (bC b) (bR b) ts n dp i j → exW b ts f 0 0 i j s = some s' → i ≤ j → j ≤ ts.length → dp ≤ 6 → s.1 ≤ 200 → runI b I J s lf dp → (∀ i, i < dp → 1 ≤ lf i ∧ lf i ≤ 40) → it + sumN lf dp ≤ 41 * s.1 → (∀ (J' : zI) (it' : Nat), runI b I J' s' lf dp → s'.1 ≤ 200 → it' + sumN lf dp ≤ 41 * s'.1 → HD J' s' dp j it') → (200 ≤ s'.1 → s'.2 = FIN.2) → HD J s dp i it) ∧ (∀ (n k i j dp it : Nat) (s s' : xs) (J : zI) (lf : Nat → Nat), sqOk (bN b) (bC b) (bR b) ts n (dp + 1) i j → exW b ts f 1 k i j s = some s' → i ≤ j → j < ts.length → (tk ts j).1 = 7 → (tk ts j).2.1 + 1 = i → dp ≤ 5 → s.1 ≤ 200 → lf dp = k → runI b I J s lf (dp + 1) → (∀ i, i < dp + 1 → 1 ≤ lf i ∧ lf i ≤ 40) → it + sumN lf (dp + 1) ≤ 41 * s.1 → (∀ (J' : zI) (it' : Nat), runI b I J' s' lf dp → s'.1 ≤ 200 → it' + sumN lf dp ≤ 41 * s'.1 → HD J' s' dp (j + 1) it') → (200 ≤ s'.1 → s'.2 = FIN.2) → HD J s (dp + 1) i it) := by
    intro f
    induction f with
    | zero => exact ⟨fun n i j dp it s s' J lf _ h => (by cases h), fun n k i j dp it s s' J lf _ h => (by cases h)⟩
    | succ f ih =>
      obtain ⟨ihS, ihR⟩ := ih
      refine ⟨?_, ?_⟩
      · intro n i j dp it s s' J lf hq hx hij hj hdp hs2 hI hlf hit hcont hfin
        rw [exW, if_pos rfl] at hx
        by_cases h2 : 200 ≤ s.1
        · rw [if_pos (Or.inr h2)] at hx
          cases hx
          exact brk (10000 - it) it J s lf dp i (by omega) h2 (by omega) (hfin h2) hI hdp (by omega) hlf
        · by_cases hji : j ≤ i
          · rw [if_pos (Or.inl hji)] at hx
            cases hx
            obtain rfl : i = j := by omega
            exact hcont J it hI hs2 hit
          · rw [if_neg (by omega)] at hx
            have hil : i < ts.length := by omega
            have hk9 := hkd hI hil
            cases n with
            | zero => have h' : i = j := hq; omega
            | succ n =>
              rcases hq with h | ⟨h1, h3⟩
              · omega
              · rcases h3 with ⟨a1, a2, a3, a4, a5, a6, a7, a8, a9⟩ | ⟨a1, a2⟩
                · rw [if_pos a1] at hx
                  cases hx1 : exW b ts f 1 (tk ts i).2.1 (i + 1) (tk ts i).2.2 (s.1 + 1, s.2) with
                  | none => rw [hx1] at hx; cases hx
                  | some s2 =>
                    rw [hx1] at hx
                    have hx2 : exW b ts f 0 0 ((tk ts i).2.2 + 1) j s2 = some s' := hx
                    have hI1 : runI b I J (s.1 + 1, s.2) lf dp := hI
                    have fin2 : 200 ≤ s2.1 → s2.2 = FIN.2 := fun z => by
                      have e9 : s' = s2 := by
                        cases f with
                        | zero => cases hx2
                        | succ f => rw [exW, if_pos rfl, if_pos (Or.inr z)] at hx2; cases hx2; rfl
                      rw [← e9]; exact hfin (by rw [e9]; exact z)
                    have cont2 : ∀ (J' : zI) (it' : Nat), runI b I J' s2 lf dp → s2.1 ≤ 200 → it' + sumN lf dp ≤ 41 * s2.1 → HD J' s2 dp ((tk ts i).2.2 + 1) it' := fun J' it' r1 r2 r3 => ihS n ((tk ts i).2.2 + 1) j dp it' s2 s' J' lf a9 hx2 (by omega) hj hdp r2 r1 hlf r3 hcont hfin
                    by_cases n0 : (tk ts i).2.1 = 0
                    · have e2 : s2 = (s.1 + 1, s.2) := by
                        cases f with
                        | zero => cases hx1
                        | succ f => rw [exW, if_neg (by decide), if_pos (Or.inl n0)] at hx1; cases hx1; rfl
                      have h9 := cont2 J (it + 1) (by rw [e2]; exact hI1) (by rw [e2]; simp only; omega) (by rw [e2]; simp only; omega)
                      rw [e2] at h9
                      rw [hHD] at h9 ⊢
                      refine zJ_iload dX11_run_19 rfl ?_
                      refine zJ_sipush (v := nI 10000) dX11_run_21 rfl ?_
                      refine zJ_icmp_ge 257 dX11_run_24 (by decide) (fun c24 => absurd c24 (nI_ge (by omega) (by omega))) (fun _ => ?_)
                      refine zJ_iload dX11_run_27 rfl ?_
                      refine zJ_aload_n dX11_run_29 rfl ?_
                      refine zP_geti lf_X11_27 (zSt_ob hs 35 11 rfl) rfl dX11_run_30 ?_
                      rw [hlen hI]
                      refine zJ_icmp_ge 257 dX11_run_33 (by decide) (fun c33 => absurd c33 (nI_ge (by omega) (by omega))) (fun _ => ?_)
                      refine zJ_aload_n dX11_run_36 rfl ?_
                      refine zP_getr lf_X11_9 (zSt_ob hs 35 11 rfl) rfl (zSt_rf hs 35 3 36 rfl) dX11_run_37 ?_
                      refine zJ_iload dX11_run_40 rfl ?_
                      refine zP_iald (zSt_ar hs 36 150 rfl) (by first | assumption | with_reducible exact vp_in_nI (by omega) (by omega) | (simp (disch := omega) only [nI_add, pk_mul, pk_sub, pk_div, pk_rem, nI_clamp]; with_reducible exact vp_in_nI (by omega) (by omega))) dX11_run_42 ?_
                      rw [nI_clamp (by omega), hk9.1, a1]
                      refine zJ_istore dX11_run_43 (Nat.le_of_ble_eq_true rfl) (by decide) ?_
                      refine zJ_iload dX11_run_45 rfl ?_
                      refine zJ_bipush (v := nI 7) dX11_run_47 rfl ?_
                      refine zJ_icmp_ne 130 dX11_run_49 (by decide) (fun _ => ?_) (fun c49 => absurd c49 (by decide))
                      refine zJ_iload_n dX11_run_130 rfl ?_
                      refine zJ_sipush (v := nI 200) dX11_run_131 rfl ?_
                      refine zJ_icmp_lt 140 dX11_run_134 (by decide) (fun _ => ?_) (fun c134 => absurd (nI_lt (by omega) (by omega)) c134)
                      refine zJ_iinc1 dX11_run_140 rfl (by decide) ?_
                      refine zJ_iload dX11_run_143 rfl ?_
                      refine zJ_bipush (v := nI 6) dX11_run_145 rfl ?_
                      refine zJ_icmp_ne 174 dX11_run_147 (by decide) (fun c147 => absurd rfl c147) (fun _ => ?_)
                      refine zJ_aload_n dX11_run_150 rfl ?_
                      refine zP_getr lf_X11_15 (zSt_ob hs 35 11 rfl) rfl (zSt_rf hs 35 4 37 rfl) dX11_run_151 ?_
                      refine zJ_iload dX11_run_154 rfl ?_
                      refine zP_iald (zSt_ar hs 37 150 rfl) (by first | assumption | with_reducible exact vp_in_nI (by omega) (by omega) | (simp (disch := omega) only [nI_add, pk_mul, pk_sub, pk_div, pk_rem, nI_clamp]; with_reducible exact vp_in_nI (by omega) (by omega))) dX11_run_156 ?_
                      rw [nI_clamp (by omega), hk9.2.1, n0]
                      refine zJ_if_ne 174 dX11_run_157 (by decide) (fun c157 => absurd rfl c157) (fun _ => ?_)
                      refine zJ_aload_n dX11_run_160 rfl ?_
                      refine zP_getr lf_X11_18 (zSt_ob hs 35 11 rfl) rfl (zSt_rf hs 35 5 38 rfl) dX11_run_161 ?_
                      refine zJ_iload dX11_run_164 rfl ?_
                      refine zP_iald (zSt_ar hs 38 150 rfl) (by first | assumption | with_reducible exact vp_in_nI (by omega) (by omega) | (simp (disch := omega) only [nI_add, pk_mul, pk_sub, pk_div, pk_rem, nI_clamp]; with_reducible exact vp_in_nI (by omega) (by omega))) dX11_run_166 ?_
                      rw [nI_clamp (by omega), hk9.2.2]
                      refine zJ_iconst (v := nI 1) dX11_run_167 rfl ?_
                      refine zJ_iadd dX11_run_168 ?_
                      rw [nI_add]
                      refine zJ_istore dX11_run_169 (Nat.le_of_ble_eq_true rfl) (by decide) ?_
                      refine zJ_goto 251 dX11_run_171 (by decide) ?_
                      refine zJ_iinc1 dX11_run_251 rfl (by decide) ?_
                      refine zJ_goto 19 dX11_run_254 (by decide) ?_
                      exact zJ_back (zle_r (zle_r (zle_r (zle_r (zle_r (zle_r (zle_r (zle_r (zle_n (zle_n zle_0)))))))))) rfl h9
                    · have hJ2 : runI b I (zup J 40 dp (nI (tk ts i).2.1)) (s.1 + 1, s.2) (un lf dp (tk ts i).2.1) (dp + 1) := by
                        obtain ⟨i1, i2, i3, i4, i5, i6, i7⟩ := hI1
                        refine ⟨fun a q1 q2 q3 q4 q5 q6 q7 q8 q9 q10 q11 => by rw [zup_row q2]; exact i1 a q1 q2 q3 q4 q5 q6 q7 q8 q9 q10 q11, fun k hk => by rw [zup_row (by decide)]; exact i2 k hk, by rw [zup_row (by decide)]; exact i3, fun i hi => ?_, zWi_zup i5 (by decide), zRow_zup i6 (by decide), i7⟩
                        rw [zup_same]
                        by_cases z : i = dp
                        · rw [z, upd_at, un_at]
                        · rw [upd_ne z, un_ne z]; exact i4 i (by omega)
                      have h9 := ihR n (tk ts i).2.1 (i + 1) (tk ts i).2.2 dp (it + 1) (s.1 + 1, s.2) s2 _ (un lf dp (tk ts i).2.1) a8 hx1 (by omega) (by omega) a6 (by omega) (by omega) (by simp only; omega) un_at hJ2 (fun q hq => by
                        by_cases z : q = dp
                        · rw [z, un_at]; omega
                        · rw [un_ne z]; exact hlf q (by omega)) (by simp only [sumN]; rw [sumN_un (Nat.le_refl _), un_at]; omega) (fun J' it' r1 r2 r3 => cont2 J' it' ⟨r1.1, r1.2.1, r1.2.2.1, fun q hq => by rw [r1.2.2.2.1 q hq, un_ne (by omega)], r1.2.2.2.2⟩ r2 (by rw [sumN_un (Nat.le_refl _)] at r3; exact r3)) fin2
                      rw [hHD] at h9 ⊢
                      refine zJ_iload dX11_run_19 rfl ?_
                      refine zJ_sipush (v := nI 10000) dX11_run_21 rfl ?_
                      refine zJ_icmp_ge 257 dX11_run_24 (by decide) (fun c24 => absurd c24 (nI_ge (by omega) (by omega))) (fun _ => ?_)
                      refine zJ_iload dX11_run_27 rfl ?_
                      refine zJ_aload_n dX11_run_29 rfl ?_
                      refine zP_geti lf_X11_27 (zSt_ob hs 35 11 rfl) rfl dX11_run_30 ?_
                      rw [hlen hI]
                      refine zJ_icmp_ge 257 dX11_run_33 (by decide) (fun c33 => absurd c33 (nI_ge (by omega) (by omega))) (fun _ => ?_)
                      refine zJ_aload_n dX11_run_36 rfl ?_
                      refine zP_getr lf_X11_9 (zSt_ob hs 35 11 rfl) rfl (zSt_rf hs 35 3 36 rfl) dX11_run_37 ?_
                      refine zJ_iload dX11_run_40 rfl ?_
                      refine zP_iald (zSt_ar hs 36 150 rfl) (by first | assumption | with_reducible exact vp_in_nI (by omega) (by omega) | (simp (disch := omega) only [nI_add, pk_mul, pk_sub, pk_div, pk_rem, nI_clamp]; with_reducible exact vp_in_nI (by omega) (by omega))) dX11_run_42 ?_
                      rw [nI_clamp (by omega), hk9.1, a1]
                      refine zJ_istore dX11_run_43 (Nat.le_of_ble_eq_true rfl) (by decide) ?_
                      refine zJ_iload dX11_run_45 rfl ?_
                      refine zJ_bipush (v := nI 7) dX11_run_47 rfl ?_
                      refine zJ_icmp_ne 130 dX11_run_49 (by decide) (fun _ => ?_) (fun c49 => absurd c49 (by decide))
                      refine zJ_iload_n dX11_run_130 rfl ?_
                      refine zJ_sipush (v := nI 200) dX11_run_131 rfl ?_
                      refine zJ_icmp_lt 140 dX11_run_134 (by decide) (fun _ => ?_) (fun c134 => absurd (nI_lt (by omega) (by omega)) c134)
                      refine zJ_iinc1 dX11_run_140 rfl (by decide) ?_
                      refine zJ_iload dX11_run_143 rfl ?_
                      refine zJ_bipush (v := nI 6) dX11_run_145 rfl ?_
                      refine zJ_icmp_ne 174 dX11_run_147 (by decide) (fun c147 => absurd rfl c147) (fun _ => ?_)
                      refine zJ_aload_n dX11_run_150 rfl ?_
                      refine zP_getr lf_X11_15 (zSt_ob hs 35 11 rfl) rfl (zSt_rf hs 35 4 37 rfl) dX11_run_151 ?_
                      refine zJ_iload dX11_run_154 rfl ?_
                      refine zP_iald (zSt_ar hs 37 150 rfl) (by first | assumption | with_reducible exact vp_in_nI (by omega) (by omega) | (simp (disch := omega) only [nI_add, pk_mul, pk_sub, pk_div, pk_rem, nI_clamp]; with_reducible exact vp_in_nI (by omega) (by omega))) dX11_run_156 ?_
                      rw [nI_clamp (by omega), hk9.2.1]
                      refine zJ_if_ne 174 dX11_run_157 (by decide) (fun _ => ?_) (fun c157 => absurd c157 (nI_ne0 (by omega) (by omega)))
                      refine zJ_iload dX11_run_174 rfl ?_
                      refine zJ_bipush (v := nI 6) dX11_run_176 rfl ?_
                      refine zJ_icmp_ne 208 dX11_run_178 (by decide) (fun c178 => absurd rfl c178) (fun _ => ?_)
                      refine zJ_iload dX11_run_181 rfl ?_
                      refine zJ_bipush (v := nI 6) dX11_run_183 rfl ?_
                      refine zJ_icmp_ge 208 dX11_run_185 (by decide) (fun c185 => absurd c185 (nI_ge (by omega) (by omega))) (fun _ => ?_)
                      refine zJ_aload_n dX11_run_188 rfl ?_
                      refine zP_getr lf_X11_24 (zSt_ob hs 35 11 rfl) rfl (zSt_rf hs 35 7 40 rfl) dX11_run_189 ?_
                      refine zJ_iload dX11_run_192 rfl ?_
                      refine zJ_aload_n dX11_run_194 rfl ?_
                      refine zP_getr lf_X11_15 (zSt_ob hs 35 11 rfl) rfl (zSt_rf hs 35 4 37 rfl) dX11_run_195 ?_
                      refine zJ_iload dX11_run_198 rfl ?_
                      refine zP_iald (zSt_ar hs 37 150 rfl) (by first | assumption | with_reducible exact vp_in_nI (by omega) (by omega) | (simp (disch := omega) only [nI_add, pk_mul, pk_sub, pk_div, pk_rem, nI_clamp]; with_reducible exact vp_in_nI (by omega) (by omega))) dX11_run_200 ?_
                      rw [nI_clamp (by omega), hk9.2.1]
                      refine zP_iast (zSt_ar hs 40 6 rfl) (by first | assumption | with_reducible exact vp_in_nI (by omega) (by omega) | (simp (disch := omega) only [nI_add, pk_mul, pk_sub, pk_div, pk_rem, nI_clamp]; with_reducible exact vp_in_nI (by omega) (by omega))) dX11_run_201 ?_
                      rw [nI_clamp (by omega)]
                      refine zJ_iinc1 dX11_run_202 rfl (by decide) ?_
                      refine zJ_goto 248 dX11_run_205 (by decide) ?_
                      refine zJ_iinc1 dX11_run_248 rfl (by decide) ?_
                      refine zJ_iinc1 dX11_run_251 rfl (by decide) ?_
                      refine zJ_goto 19 dX11_run_254 (by decide) ?_
                      exact zJ_back (zle_r (zle_r (zle_r (zle_r (zle_r (zle_r (zle_r (zle_r (zle_n (zle_n zle_0)))))))))) rfl h9
                · have hk5 := a1.1
                  rw [if_neg (by omega)] at hx
                  obtain ⟨p1, p2, p3, p4, p5⟩ := a1
                  have step : ∀ (J' : zI), fX 62 J J' → zRow J' 62 (perM b s.2.2.2 (tk ts i).1 (tk ts i).2.1 (tk ts i).2.2) → ∀ (s9 : xs), s9 = prm b (tk ts i) (s.1 + 1, s.2) → ∀ K : zI, (∀ a, a ≠ 35 → K a = J' a) → (∀ k, k ≠ 0 → K 35 k = J' 35 k) → K 35 0 = nI s9.2.2.1 → s9.2.2.2 = perM b s.2.2.2 (tk ts i).1 (tk ts i).2.1 (tk ts i).2.2 → s9.1 = s.1 + 1 → HD K s9 dp (i + 1) (it + 1) := by
                    intro J' f1 r1 s9 e9 K k1 k2 k3 e10 e11
                    rw [← e9] at hx
                    obtain ⟨i1, i2, i3, i4, i5, i6, i7⟩ := hI
                    have hz : zWi J' b := zWi_fX (by decide) i5 f1
                    refine ihS n (i + 1) j dp (it + 1) s9 s' K lf a2 hx (by omega) hj hdp (by omega) ⟨fun a q1 q2 q3 q4 q5 q6 q7 q8 q9 q10 q11 => ?_, fun k hk => ?_, k3, fun q hq => ?_, ?_, ?_, ?_⟩ hlf (by omega) hcont hfin
                    · rw [k1 a q1, f1 a q3 q4 q5 q6 q7 q8 q9 q10 (by omega)]; exact i1 a q1 q2 q3 q4 q5 q6 q7 q8 q9 q10 q11
                    · rw [k2 k hk, f1 35 (by decide) (by decide) (by decide) (by decide) (by decide) (by decide) (by decide) (by decide) (by decide)]; exact i2 k hk
                    · rw [k1 40 (by decide), f1 40 (by decide) (by decide) (by decide) (by decide) (by decide) (by decide) (by decide) (by decide) (by decide)]; exact i4 q hq
                    · unfold zWi zBd at hz ⊢
                      rw [k1 3 (by decide), k1 (3 + 3) (by decide), k1 (3 + 4) (by decide), k1 5 (by decide), k1 9 (by decide), k1 8 (by decide), k1 11 (by decide), k1 21 (by decide), k1 23 (by decide)]
                      exact hz
                    · rw [e10]; exact zRow_of r1 (fun a q1 q2 => k1 a (by omega))
                    · rw [e10]; exact okR_per hW.1 hg i7 p2 (fun z => by have := p3 z; omega) (fun z => (p4 z).2)
                  have hkI := hI
                  obtain ⟨i1, i2, i3, i4, i5, i6, i7⟩ := hkI
                  rw [hHD]
                  refine zJ_iload dX11_run_19 rfl ?_
                  refine zJ_sipush (v := nI 10000) dX11_run_21 rfl ?_
                  refine zJ_icmp_ge 257 dX11_run_24 (by decide) (fun c24 => absurd c24 (nI_ge (by omega) (by omega))) (fun _ => ?_)
                  refine zJ_iload dX11_run_27 rfl ?_
                  refine zJ_aload_n dX11_run_29 rfl ?_
                  refine zP_geti lf_X11_27 (zSt_ob hs 35 11 rfl) rfl dX11_run_30 ?_
                  rw [hlen hI]
                  refine zJ_icmp_ge 257 dX11_run_33 (by decide) (fun c33 => absurd c33 (nI_ge (by omega) (by omega))) (fun _ => ?_)
                  refine zJ_aload_n dX11_run_36 rfl ?_
                  refine zP_getr lf_X11_9 (zSt_ob hs 35 11 rfl) rfl (zSt_rf hs 35 3 36 rfl) dX11_run_37 ?_
                  refine zJ_iload dX11_run_40 rfl ?_
                  refine zP_iald (zSt_ar hs 36 150 rfl) (by first | assumption | with_reducible exact vp_in_nI (by omega) (by omega) | (simp (disch := omega) only [nI_add, pk_mul, pk_sub, pk_div, pk_rem, nI_clamp]; with_reducible exact vp_in_nI (by omega) (by omega))) dX11_run_42 ?_
                  rw [nI_clamp (by omega), hk9.1]
                  refine zJ_istore dX11_run_43 (Nat.le_of_ble_eq_true rfl) (by decide) ?_
                  refine zJ_iload dX11_run_45 rfl ?_
                  refine zJ_bipush (v := nI 7) dX11_run_47 rfl ?_
                  refine zJ_icmp_ne 130 dX11_run_49 (by decide) (fun _ => ?_) (fun c49 => absurd c49 (fun z => by have := (nI_eq (by omega) (by omega)).mp z; omega))
                  refine zJ_iload_n dX11_run_130 rfl ?_
                  refine zJ_sipush (v := nI 200) dX11_run_131 rfl ?_
                  refine zJ_icmp_lt 140 dX11_run_134 (by decide) (fun _ => ?_) (fun c134 => absurd (nI_lt (by omega) (by omega)) c134)
                  refine zJ_iinc1 dX11_run_140 rfl (by decide) ?_
                  refine zJ_iload dX11_run_143 rfl ?_
                  refine zJ_bipush (v := nI 6) dX11_run_145 rfl ?_
                  refine zJ_icmp_ne 174 dX11_run_147 (by decide) (fun _ => ?_) (fun c147 => absurd c147 (fun z => by have := (nI_eq (by omega) (by omega)).mp z; omega))
                  refine zJ_iload dX11_run_174 rfl ?_
                  refine zJ_bipush (v := nI 6) dX11_run_176 rfl ?_
                  refine zJ_icmp_ne 208 dX11_run_178 (by decide) (fun _ => ?_) (fun c178 => absurd c178 (fun z => by have := (nI_eq (by omega) (by omega)).mp z; omega))
                  refine zJ_aload_n dX11_run_208 rfl ?_
                  refine zJ_aload_n dX11_run_209 rfl ?_
                  refine zJ_iload dX11_run_210 rfl ?_
                  refine zJ_aload_n dX11_run_212 rfl ?_
                  refine zP_getr lf_X11_15 (zSt_ob hs 35 11 rfl) rfl (zSt_rf hs 35 4 37 rfl) dX11_run_213 ?_
                  refine zJ_iload dX11_run_216 rfl ?_
                  refine zP_iald (zSt_ar hs 37 150 rfl) (by first | assumption | with_reducible exact vp_in_nI (by omega) (by omega) | (simp (disch := omega) only [nI_add, pk_mul, pk_sub, pk_div, pk_rem, nI_clamp]; with_reducible exact vp_in_nI (by omega) (by omega))) dX11_run_218 ?_
                  rw [nI_clamp (by omega), hk9.2.1]
                  refine zJ_aload_n dX11_run_219 rfl ?_
                  refine zP_getr lf_X11_18 (zSt_ob hs 35 11 rfl) rfl (zSt_rf hs 35 5 38 rfl) dX11_run_220 ?_
                  refine zJ_iload dX11_run_223 rfl ?_
                  refine zP_iald (zSt_ar hs 38 150 rfl) (by first | assumption | with_reducible exact vp_in_nI (by omega) (by omega) | (simp (disch := omega) only [nI_add, pk_mul, pk_sub, pk_div, pk_rem, nI_clamp]; with_reducible exact vp_in_nI (by omega) (by omega))) dX11_run_225 ?_
                  rw [nI_clamp (by omega), hk9.2.2]
                  refine zP_ecallVi [_, _, _, _] _ lv_X11_112 (k_X6_perform (k := (tk ts i).1) (f := (tk ts i).2.1) (t := (tk ts i).2.2) (d := d - 1) hl (by omega) hs (zSt_state hs) (by decide) (by omega) ⟨p2, fun z => by have := p3 z; omega⟩ i5 i6 i7) (zSt_ob hs 43 6 rfl) rfl (by omega) (Nat.le_of_ble_eq_true rfl) rfl dX11_run_226 (fun x J2 hx2 => ?_)
                  obtain ⟨rfl, f1, r1⟩ := hx2
                  refine zJ_if_eq 238 dX11_run_229 (by decide) (fun c229 => ?_) (fun c229 => ?_)
                  · replace c229 := zb0.mp c229
                    refine zJ_aload_n dX11_run_238 rfl ?_
                    refine zJ_dup dX11_run_239 rfl ?_
                    refine zP_geti lf_X11_109 (zSt_ob hs 35 11 rfl) rfl dX11_run_240 ?_
                    rw [f1 35 (by decide) (by decide) (by decide) (by decide) (by decide) (by decide) (by decide) (by decide) (by decide), i3]
                    refine zJ_iconst (v := nI 1) dX11_run_243 rfl ?_
                    refine zJ_iadd dX11_run_244 ?_
                    rw [nI_add]
                    refine zP_puti lf_X11_109 (zSt_ob hs 35 11 rfl) rfl dX11_run_245 ?_
                    refine zJ_iinc1 dX11_run_248 rfl (by decide) ?_
                    refine zJ_iinc1 dX11_run_251 rfl (by decide) ?_
                    refine zJ_goto 19 dX11_run_254 (by decide) ?_
                    have e9 : prm b (tk ts i) (s.1 + 1, s.2) = (s.1 + 1, s.2.1, s.2.2.1 + 1, perM b s.2.2.2 (tk ts i).1 (tk ts i).2.1 (tk ts i).2.2) := by unfold prm; rw [if_neg (by rw [c229]; decide)]
                    have h9 := step J2 f1 r1 _ e9.symm (zup J2 35 0 (nI (s.2.2.1 + 1))) (fun a ha => zup_row ha) (fun k hk => by rw [zup_same, upd_ne hk]) (by rw [zup_same, upd_at]) rfl rfl
                    rw [hHD] at h9
                    exact zJ_back (zle_r (zle_r (zle_r (zle_r (zle_r (zle_r (zle_r (zle_r (zle_n (zle_n zle_0)))))))))) rfl h9
                  · replace c229 := zb1.mp c229
                    refine zJ_iinc1 dX11_run_232 rfl (by decide) ?_
                    refine zJ_goto 248 dX11_run_235 (by decide) ?_
                    refine zJ_iinc1 dX11_run_248 rfl (by decide) ?_
                    refine zJ_iinc1 dX11_run_251 rfl (by decide) ?_
                    refine zJ_goto 19 dX11_run_254 (by decide) ?_
                    have e9 : prm b (tk ts i) (s.1 + 1, s.2) = (s.1 + 1, s.2.1 + 1, s.2.2.1, perM b s.2.2.2 (tk ts i).1 (tk ts i).2.1 (tk ts i).2.2) := by unfold prm; rw [if_pos c229]
                    have h9 := step J2 f1 r1 _ e9.symm J2 (fun a ha => rfl) (fun k hk => rfl) (by rw [f1 35 (by decide) (by decide) (by decide) (by decide) (by decide) (by decide) (by decide) (by decide) (by decide)]; exact i3) rfl rfl
                    rw [hHD] at h9
                    exact zJ_back (zle_r (zle_r (zle_r (zle_r (zle_r (zle_r (zle_r (zle_r (zle_n (zle_n zle_0)))))))))) rfl h9
      · intro n k i j dp it s s' J lf hq hx hij hj h7 hj1 hdp hs2 hk hI hlf hit hcont hfin
        have hk1 := hlf dp (by omega)
        rw [hk] at hk1
        rw [exW, if_neg (by decide)] at hx
        by_cases h2 : 200 ≤ s.1
        · rw [if_pos (Or.inr h2)] at hx
          cases hx
          exact brk (10000 - it) it J s lf (dp + 1) i (by omega) h2 (by omega) (hfin h2) hI (by omega) (by omega) hlf
        · rw [if_neg (by omega)] at hx
          cases hx1 : exW b ts f 0 0 i j s with
          | none => rw [hx1] at hx; cases hx
          | some s2 =>
            rw [hx1] at hx
            have hx2 : exW b ts f 1 (k - 1) i j s2 = some s' := hx
            have fin2 : 200 ≤ s2.1 → s2.2 = FIN.2 := fun z => by
              have e9 : s' = s2 := by
                cases f with
                | zero => cases hx2
                | succ f => rw [exW, if_neg (by decide), if_pos (Or.inr z)] at hx2; cases hx2; rfl
              rw [← e9]; exact hfin (by rw [e9]; exact z)
            refine ihS n i j (dp + 1) it s s2 J lf hq hx1 hij (by omega) (by omega) hs2 hI hlf hit (fun J' it' r1 r2 r3 => ?_) fin2
            simp only [sumN] at r3
            rw [hk] at r3
            refine closeC J' s2 lf dp j it' k r1 hk hk1.1 hk1.2 hdp hj h7 (by omega) (fun k1 J2 r4 => ?_) (fun k2 J2 r4 => ?_)
            · have e9 : s' = s2 := by
                cases f with
                | zero => cases hx2
                | succ f => rw [exW, if_neg (by decide), if_pos (Or.inl (by omega))] at hx2; cases hx2; rfl
              rw [e9] at hcont
              exact hcont J2 (it' + 1) r4 r2 (by omega)
            · rw [hj1]
              refine ihR n (k - 1) i j dp (it' + 1) s2 s' J2 (un lf dp (k - 1)) hq hx2 hij hj h7 hj1 hdp r2 un_at r4 (fun q hq => ?_) ?_ (fun J3 it3 r5 r6 r7 => hcont J3 it3 ⟨r5.1, r5.2.1, r5.2.2.1, fun q hq => by rw [r5.2.2.2.1 q hq, un_ne (by omega)], r5.2.2.2.2⟩ r6 (by rw [sumN_un (Nat.le_refl _)] at r7; exact r7)) hfin
              · by_cases z : q = dp
                · rw [z, un_at]; omega
                · rw [un_ne z]; exact hlf q hq
              · simp only [sumN]; rw [sumN_un (Nat.le_refl _), un_at]; omega
  have hI0 : runI b I (zup I 35 0 (nI 0)) (0, 0, 0, R) (fun _ => 0) 0 := ⟨fun a q1 _ _ _ _ _ _ _ _ _ _ => zup_row q1, fun k hk => by rw [zup_same, upd_ne hk], by rw [zup_same, upd_at], fun i hi => absurd hi (Nat.not_lt_zero _), zWi_zup hW (by decide), zRow_zup hR (by decide), hok⟩
  have hend : ∀ (J' : zI) (it' : Nat), runI b I J' FIN (fun _ => 0) 0 → FIN.1 ≤ 200 → it' + sumN (fun _ => 0) 0 ≤ 41 * FIN.1 → HD J' FIN 0 ts.length it' := by
    intro J' it' r1 r2 r3
    rw [hHD]
    refine zJ_iload dX11_run_19 rfl ?_
    refine zJ_sipush (v := nI 10000) dX11_run_21 rfl ?_
    refine zJ_icmp_ge 257 dX11_run_24 (by decide) (fun c24 => absurd c24 (nI_ge (by omega) (by omega))) (fun _ => ?_)
    refine zJ_iload dX11_run_27 rfl ?_
    refine zJ_aload_n dX11_run_29 rfl ?_
    refine zP_geti lf_X11_27 (zSt_ob hs 35 11 rfl) rfl dX11_run_30 ?_
    rw [hlen r1]
    refine zJ_icmp_ge 257 dX11_run_33 (by decide) (fun _ => ?_) (fun c33 => absurd (nI_le (by omega) (by omega)) c33)
    refine zJ_iload dX11_run_257 rfl ?_
    refine zJ_iret rfl dX11_run_259 ?_
    exact ⟨_, J', rfl, rfl, rfl, fin J' FIN _ _ rfl r1⟩
  have h9 := (main f).1 n 0 ts.length 0 0 (0, 0, 0, R) FIN _ (fun _ => 0) hsq hex (Nat.zero_le _) (Nat.le_refl _) (by decide) (show 0 ≤ 200 by decide) hI0 (fun i hi => absurd hi (Nat.not_lt_zero _)) (show 0 + 0 ≤ 41 * 0 by decide) hend (fun _ => rfl)
  rw [hHD] at h9
  refine zJ_iconst (v := nI 0) dX11_run_0 rfl ?_
  refine zJ_istore_m 3 dX11_run_1 rfl (Nat.le_of_ble_eq_true rfl) (by decide) ?_
  refine zJ_iconst (v := nI 0) dX11_run_2 rfl ?_
  refine zJ_istore dX11_run_3 (Nat.le_of_ble_eq_true rfl) (by decide) ?_
  refine zJ_iconst (v := nI 0) dX11_run_5 rfl ?_
  refine zJ_istore dX11_run_6 (Nat.le_of_ble_eq_true rfl) (by decide) ?_
  refine zJ_iconst (v := nI 0) dX11_run_8 rfl ?_
  refine zJ_istore dX11_run_9 (Nat.le_of_ble_eq_true rfl) (by decide) ?_
  refine zJ_aload_n dX11_run_11 rfl ?_
  refine zJ_iconst (v := nI 0) dX11_run_12 rfl ?_
  refine zP_puti lf_X11_109 (zSt_ob hs 35 11 rfl) rfl dX11_run_13 ?_
  refine zJ_iconst (v := nI 0) dX11_run_16 rfl ?_
  refine zJ_istore dX11_run_17 (Nat.le_of_ble_eq_true rfl) (by decide) ?_
  exact zJ_back (zle_r (zle_r (zle_r (zle_r (zle_r (zle_r (zle_r (zle_r (zle_n (zle_n zle_0)))))))))) rfl h9
end ZRun
