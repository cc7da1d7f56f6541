/-! ===== Router: a step of work; distances ===== -/
section ZRouter3
variable {l : Launch} {Xi : zXi} {d : Nat} {I : zI} {g : zG}
theorem lm_X6_206 : Cond.methodLink RX6 206 Lib.Math.abs.name ∈ zGT := zt6 1 rfl rfl
theorem lm_static : Cond.static Lib.Math.abs.name ∈ zGT := zt6 2 rfl rfl
theorem lm_init : Cond.initialized "java/lang/Math" ∈ zGT := zt1 27 rfl rfl
theorem lm_code : Cond.code Lib.Math.abs.name Lib.Math.abs.code 1 (some .int) ∈ zGT := zt6 3 rfl rfl
theorem zJ_mabs {M : zM} {kc ks pc idx : Nat} {Ls : List (Option Value)} {S : List Value} {h : zH} {post : zR → zH → Prop} {x : Int32} (lk : Cond.methodLink M.1 idx Lib.Math.abs.name ∈ zGT) (hst : (S.map fun v => v.category).sum ≤ 8) (hdp : 2 ≤ d) (hd : decode M.2.2.1 pc = .ok (.invokestatic idx, 3)) (kk : zJ l Xi M d kc ks (pc + 3) Ls (.int (if 0 ≤ x then x else 0 - x) :: S) h post) : zJ l Xi M d kc ks pc Ls (.int x :: S) h post := by
  intro p e R s m args below meth c H locs cells slots ls D cT ao ad A n0 ad0 E hc hs1 hS hP hn he hl hv
  have hcat : ((S.map (zv ad)).map fun v => v.category).sum ≤ 8 := by
    rw [zS_cat]
    exact hst
  have hfr : 1 ≤ R.frames := by
    have := E.2.2.2.2.2.2.2.2.1
    omega
  have hlo : ((S.map (zv ad)).map fun v => v.category).sum + 13 ≤ R.locals := by
    have h60 := E.2.2.2.2.2.2.2.2.2.1
    omega
  exact va_mabs E.1 E.2.1 (by rw [E.2.2.1, hl.1.1]) E.2.2.2.2.2.1 (E.2.2.2.2.2.2.1 _ lk) (E.2.2.2.2.2.2.1 _ lm_static) (E.2.2.2.2.2.2.1 _ lm_init) (E.2.2.2.2.2.2.1 _ lm_code) hfr hlo (by omega) (by omega) hd (kk p e R s m args below meth c H locs cells slots ls D cT ao ad A n0 ad0 E hc hs1 hS hP hn he hl (fun v q => by
    rcases List.mem_cons.mp q with rfl | q
    · exact trivial
    · exact hv v (List.mem_cons_of_mem _ q)))
def absd (a b : Nat) : Nat := (a - b) + (b - a)
theorem mabs_eq {a b : Nat} (ha : a < 2 ^ 30) (hb : b < 2 ^ 30) : (if 0 ≤ nI a - nI b then nI a - nI b else 0 - (nI a - nI b)) = nI (absd a b) := by
  have h := pk_sub_toInt ha hb
  by_cases e : b ≤ a
  · rw [if_pos (Int32.le_iff_toInt_le.mpr (by rw [h, show (0 : Int32).toInt = 0 by decide]; omega)), pk_sub e]
    congr 1
    unfold absd
    omega
  · rw [if_neg (fun z => by have := Int32.le_iff_toInt_le.mp z; rw [h, show (0 : Int32).toInt = 0 by decide] at this; omega)]
    rw [show 0 - (nI a - nI b) = nI b - nI a by rw [Int32.zero_sub, Int32.neg_sub], pk_sub (by omega)]
    congr 1
    unfold absd
    omega
def awayN (a b : Nat) : Nat := absd (a % 8) (b % 8) + absd (a / 8) (b / 8)
def spaB (D : Nat → Option Nat) (v p e : Nat) : Bool := match D e with
  | none => false
  | some u => decide (u < v) && decide (v ≤ u + awayN e p)
noncomputable def spaM (b : zWo) (R : Nat → Int32) (n p : Nat) : Int32 := match DM b R n p with
  | none => -1
  | some v => nI (cB (spaB (DM b R n) v p) 64)
theorem k_X6_distanceTo (hl : l.stackTraces = false) (hd : 5 ≤ d) (hs : zSt g) {s n p : Nat} {b : zWo} {R : Nat → Int32} (hst : zK g s 8 zLt_State) (hsN : 60 < s) (hn : n < 6) (hp : p < 64) (hW : zWi I b) (hR : zRow I s R) : zEi l Xi mX6_distanceTo d [.ref 43, .ref s, .int (nI n), .int (nI p)] I g (fun x J => x = oI (DM b R n p) ∧ fX s I J ∧ zRow J s R ∧ (∀ q, q < 64 → J 46 q = enc (DM b R n q)) ∧ ∀ q v, q < 64 → DM b R n q = some v → v ≤ 64000) := by
  refine zC_of hl rfl rfl rfl (Nat.le_of_ble_eq_true rfl) (zav_r (zSt_ob hs 43 6 rfl).1 (zav_r hst.1.1 (zav_i (zav_i zav_0)))) ?_
  have h1 : fX s I (va_up I 47 (fillR (I 47) (nI 0) 64)) := fX_up fX_rfl (by omega)
  have hW1 := zWi_fX hsN hW h1
  have hR1 : zRow (va_up I 47 (fillR (I 47) (nI 0) 64)) s R := zRow_of hR (fun a q1 q2 => va_up_row (by omega))
  have hp1 : ∀ q, q < 64 → va_up I 47 (fillR (I 47) (nI 0) 64) 47 q = 0 ∨ va_up I 47 (fillR (I 47) (nI 0) 64) 47 q = nI (cstM b R n q) := fun q hq => by
    rw [va_up_same]
    left
    simp [fillR, hq, nI0]
  refine zJ_aload_n dX6_distanceTo_0 rfl ?_
  refine zP_getr lf_X6_22 (zSt_ob hs 43 6 rfl) rfl (zSt_rf hs 43 5 47 rfl) dX6_distanceTo_1 ?_
  refine zJ_iconst (v := nI 0) dX6_distanceTo_4 rfl ?_
  refine zP_callSv [_, _] _ ls_X6_139 (k_fill (d := d - 1) hl (by omega) (zSt_ar hs 47 64 rfl) (by omega)) rfl (by omega) (Nat.le_of_ble_eq_true rfl) rfl dX6_distanceTo_5 ?_
  refine zJ_aload_n dX6_distanceTo_8 rfl ?_
  refine zJ_aload_n dX6_distanceTo_9 rfl ?_
  refine zJ_iload_n dX6_distanceTo_10 rfl ?_
  refine zJ_iconst (v := nI 1) dX6_distanceTo_11 rfl ?_
  refine zP_ecallVv [_, _, _] _ lv_X6_145 (k_spread (whole := true) (d := d - 1) hl (by omega) hs hst hsN hn hW1 hR1 hp1) (zSt_ob hs 43 6 rfl) rfl (by omega) (Nat.le_of_ble_eq_true rfl) rfl dX6_distanceTo_12 (fun J hx => ?_)
  obtain ⟨hsb, F, Bd, y0, y1, y2, y3, y4⟩ := hx
  have hFD : ∀ q, q < 64 → F q = DM b R n q := fun q hq => by { cases e : DM b R n q with | none => (cases e2 : F q with | none => rfl | some v => (obtain ⟨-, v', h4, -⟩ := (y2 q hq).2 v e2; rw [e] at h4; cases h4)) | some v => exact (y2 q hq).1 v e (fun b hb => by rw [y4 rfl] at hb; cases hb) }
  have hQ : fX s I J ∧ zRow J s R ∧ (∀ q, q < 64 → J 46 q = enc (DM b R n q)) ∧ ∀ q v, q < 64 → DM b R n q = some v → v ≤ 64000 := ⟨fX_trans h1 (fX_sb hsb), zRow_sb hsN hR1 hsb, fun q hq => by rw [y1 q hq, hFD q hq], fun q v hq hv => ((y2 q hq).2 v (by rw [hFD q hq]; exact hv)).1⟩
  refine zJ_aload_n dX6_distanceTo_15 rfl ?_
  refine zP_getr lf_X6_18 (zSt_ob hs 43 6 rfl) rfl (zSt_rf hs 43 4 46 rfl) dX6_distanceTo_16 ?_
  refine zJ_iload_n dX6_distanceTo_19 rfl ?_
  refine zP_iald (zSt_ar hs 46 64 rfl) (by first | assumption | with_reducible exact vp_in_nI (by omega) (by omega) | (simp (disch := omega) only [nI_add, pk_mul, pk_sub, pk_div, pk_rem, nI_clamp]; with_reducible exact vp_in_nI (by omega) (by omega))) dX6_distanceTo_20 ?_
  rw [nI_clamp (by omega), hQ.2.2.1 p hp]
  refine zJ_ldc (v := 1000000) lk_X6_159 dX6_distanceTo_21 ?_
  refine zJ_icmp_ne 30 dX6_distanceTo_23 (by decide) (fun c23 => ?_) (fun c23 => ?_)
  · skip
    refine zJ_aload_n dX6_distanceTo_30 rfl ?_
    refine zP_getr lf_X6_18 (zSt_ob hs 43 6 rfl) rfl (zSt_rf hs 43 4 46 rfl) dX6_distanceTo_31 ?_
    refine zJ_iload_n dX6_distanceTo_34 rfl ?_
    refine zP_iald (zSt_ar hs 46 64 rfl) (by first | assumption | with_reducible exact vp_in_nI (by omega) (by omega) | (simp (disch := omega) only [nI_add, pk_mul, pk_sub, pk_div, pk_rem, nI_clamp]; with_reducible exact vp_in_nI (by omega) (by omega))) dX6_distanceTo_35 ?_
    skip
    refine zJ_iret rfl dX6_distanceTo_36 ?_
    refine ⟨_, J, rfl, rfl, ?_, hQ⟩
    rw [nI_clamp (by omega), hQ.2.2.1 p hp]
    cases e : DM b R n p with
    | none => rw [e] at c23; exact absurd rfl c23
    | some v => rfl
  · skip
    refine zJ_iconst (v := -1) dX6_distanceTo_26 rfl ?_
    refine zJ_goto 36 dX6_distanceTo_27 (by decide) ?_
    skip
    refine zJ_iret rfl dX6_distanceTo_36 ?_
    refine ⟨_, J, rfl, rfl, ?_, hQ⟩
    cases e : DM b R n p with
    | none => rfl
    | some v =>
      rw [e] at c23
      have := hQ.2.2.2 p v hp e
      have h2 : (nI v).toInt = (1000000 : Int32).toInt := by rw [← c23]; rfl
      rw [nI_toInt (by omega), show (1000000 : Int32).toInt = 1000000 by decide] at h2
      omega
set_option maxHeartbeats 1000000 in
theorem k_X6_sparedOf (hl : l.stackTraces = false) (hd : 6 ≤ d) (hs : zSt g) {s n p : Nat} {b : zWo} {R : Nat → Int32} (hst : zK g s 8 zLt_State) (hsN : 60 < s) (hn : n < 6) (hp : p < 64) (hW : zWi I b) (hR : zRow I s R) : zEi l Xi mX6_sparedOf d [.ref 43, .ref s, .int (nI n), .int (nI p)] I g (fun x J => x = spaM b R n p ∧ fX s I J ∧ zRow J s R) := by
  refine zC_of hl rfl rfl rfl (Nat.le_of_ble_eq_true rfl) (zav_r (zSt_ob hs 43 6 rfl).1 (zav_r hst.1.1 (zav_i (zav_i zav_0)))) ?_
  obtain ⟨D, hDD⟩ : ∃ D, DM b R n = D := ⟨_, rfl⟩
  have loop : ∀ (J : zI) (v : Nat), fX s I J → zRow J s R → (∀ q, q < 64 → J 46 q = enc (D q)) → (∀ q v, q < 64 → D q = some v → v ≤ 64000) → v ≤ 64000 → ∀ m e, e + m = 64 → zJ l Xi mX6_sparedOf d 0 0 23 [some (.ref 43), some (.ref s), some (.int (nI n)), some (.int (nI p)), some (.int (nI v)), some (.int (nI (cB (spaB D v p) e))), some (.int (nI e)), none] [] (J, g) (fun r' h' => ∃ x I', r' = .inl (some (.int x)) ∧ h' = (I', g) ∧ x = nI (cB (spaB D v p) 64) ∧ fX s I I' ∧ zRow I' s R) := by
    intro J v h1 h2 h3 h4 hv m
    induction m with
    | zero =>
      intro e he
      obtain rfl : e = 64 := by omega
      refine zJ_iload dX6_sparedOf_23 rfl ?_
      refine zJ_bipush (v := nI 64) dX6_sparedOf_25 rfl ?_
      refine zJ_icmp_ge 95 dX6_sparedOf_27 (by decide) (fun _ => ?_) (fun c27 => absurd (nI_le (by omega) (by omega)) c27)
      refine zJ_iload dX6_sparedOf_95 rfl ?_
      refine zJ_iret rfl dX6_sparedOf_97 ?_
      exact ⟨_, J, rfl, rfl, rfl, h1, h2⟩
    | succ m ih =>
      intro e he
      have hcnt : cB (spaB D v p) (e + 1) = cB (spaB D v p) e + (if spaB D v p e then 1 else 0) := rfl
      have IH := ih (e + 1) (by omega)
      rw [hcnt] at IH
      have haw : awayN e p ≤ 14 := by unfold awayN absd; omega
      refine zJ_iload dX6_sparedOf_23 rfl ?_
      refine zJ_bipush (v := nI 64) dX6_sparedOf_25 rfl ?_
      refine zJ_icmp_ge 95 dX6_sparedOf_27 (by decide) (fun c27 => absurd c27 (nI_ge (by omega) (by omega))) (fun _ => ?_)
      refine zJ_iload dX6_sparedOf_30 rfl ?_
      refine zJ_bipush (v := nI 8) dX6_sparedOf_32 rfl ?_
      refine zJ_irem dX6_sparedOf_34 (by decide) ?_
      refine zJ_iload_n dX6_sparedOf_35 rfl ?_
      refine zJ_bipush (v := nI 8) dX6_sparedOf_36 rfl ?_
      refine zJ_irem dX6_sparedOf_38 (by decide) ?_
      rw [pk_rem (by omega) (by omega) (by omega), pk_rem (by omega) (by omega) (by omega)]
      refine zJ_isub dX6_sparedOf_39 ?_
      refine zJ_mabs lm_X6_206 (Nat.le_of_ble_eq_true rfl) (by omega) dX6_sparedOf_40 ?_
      rw [mabs_eq (by omega) (by omega)]
      refine zJ_iload dX6_sparedOf_43 rfl ?_
      refine zJ_bipush (v := nI 8) dX6_sparedOf_45 rfl ?_
      refine zJ_idiv dX6_sparedOf_47 (by decide) ?_
      refine zJ_iload_n dX6_sparedOf_48 rfl ?_
      refine zJ_bipush (v := nI 8) dX6_sparedOf_49 rfl ?_
      refine zJ_idiv dX6_sparedOf_51 (by decide) ?_
      rw [pk_div (by omega) (by omega) (by omega), pk_div (by omega) (by omega) (by omega)]
      refine zJ_isub dX6_sparedOf_52 ?_
      refine zJ_mabs lm_X6_206 (Nat.le_of_ble_eq_true rfl) (by omega) dX6_sparedOf_53 ?_
      rw [mabs_eq (by omega) (by omega)]
      refine zJ_iadd dX6_sparedOf_56 ?_
      rw [nI_add, show absd (e % 8) (p % 8) + absd (e / 8) (p / 8) = awayN e p from rfl]
      refine zJ_istore dX6_sparedOf_57 (Nat.le_of_ble_eq_true rfl) (by decide) ?_
      refine zJ_aload_n dX6_sparedOf_59 rfl ?_
      refine zP_getr lf_X6_18 (zSt_ob hs 43 6 rfl) rfl (zSt_rf hs 43 4 46 rfl) dX6_sparedOf_60 ?_
      refine zJ_iload dX6_sparedOf_63 rfl ?_
      refine zP_iald (zSt_ar hs 46 64 rfl) (by first | assumption | with_reducible exact vp_in_nI (by omega) (by omega) | (simp (disch := omega) only [nI_add, pk_mul, pk_sub, pk_div, pk_rem, nI_clamp]; with_reducible exact vp_in_nI (by omega) (by omega))) dX6_sparedOf_65 ?_
      rw [nI_clamp (by omega), h3 e (by omega)]
      refine zJ_iload dX6_sparedOf_66 rfl ?_
      refine zJ_icmp_ge 89 dX6_sparedOf_68 (by decide) (fun c68 => ?_) (fun c68 => ?_)
      · skip
        refine zJ_iinc1 dX6_sparedOf_89 rfl (by decide) ?_
        refine zJ_goto 23 dX6_sparedOf_92 (by decide) ?_
        have hb : spaB D v p e = false := by
          unfold spaB
          cases e2 : D e with
          | none => rfl
          | some u =>
            rw [e2] at c68
            have := h4 e u (by omega) e2
            have h9 := (nI_leI (by omega) (by omega)).mp (show nI v ≤ nI u from c68)
            simp; omega
        rw [hb] at IH
        exact zJ_back (zle_r (zle_r (zle_r (zle_r (zle_r (zle_r (zle_r (zle_n zle_0)))))))) rfl IH
      · skip
        obtain ⟨u, hu⟩ : ∃ u, D e = some u := by cases e2 : D e with | none => (rw [e2] at c68; exact absurd (Int32.le_iff_toInt_le.mpr (by rw [nI_toInt (by omega), show (enc none).toInt = 1000000 by decide]; omega)) c68) | some u => exact ⟨u, rfl⟩
        have hu4 := h4 e u (by omega) hu
        rw [hu] at c68
        have huv : u < v := Nat.not_le.mp (fun z => c68 (nI_le z (by omega)))
        refine zJ_aload_n dX6_sparedOf_71 rfl ?_
        refine zP_getr lf_X6_18 (zSt_ob hs 43 6 rfl) rfl (zSt_rf hs 43 4 46 rfl) dX6_sparedOf_72 ?_
        refine zJ_iload dX6_sparedOf_75 rfl ?_
        refine zP_iald (zSt_ar hs 46 64 rfl) (by first | assumption | with_reducible exact vp_in_nI (by omega) (by omega) | (simp (disch := omega) only [nI_add, pk_mul, pk_sub, pk_div, pk_rem, nI_clamp]; with_reducible exact vp_in_nI (by omega) (by omega))) dX6_sparedOf_77 ?_
        rw [nI_clamp (by omega), h3 e (by omega), hu, show enc (some u) = nI u from rfl]
        refine zJ_iload dX6_sparedOf_78 rfl ?_
        refine zJ_iadd dX6_sparedOf_80 ?_
        rw [nI_add]
        refine zJ_iload dX6_sparedOf_81 rfl ?_
        refine zJ_icmp_lt 89 dX6_sparedOf_83 (by decide) (fun c83 => ?_) (fun c83 => ?_)
        · skip
          refine zJ_iinc1 dX6_sparedOf_89 rfl (by decide) ?_
          refine zJ_goto 23 dX6_sparedOf_92 (by decide) ?_
          have hb : spaB D v p e = false := by
            unfold spaB
            rw [hu]
            have h9 := (nI_ltI (by omega) (by omega)).mp c83
            simp; omega
          rw [hb] at IH
          exact zJ_back (zle_r (zle_r (zle_r (zle_r (zle_r (zle_r (zle_r (zle_n zle_0)))))))) rfl IH
        · skip
          refine zJ_iinc1 dX6_sparedOf_86 rfl (by decide) ?_
          refine zJ_iinc1 dX6_sparedOf_89 rfl (by decide) ?_
          refine zJ_goto 23 dX6_sparedOf_92 (by decide) ?_
          have hb : spaB D v p e = true := by
            unfold spaB
            rw [hu]
            have h9 : v ≤ u + awayN e p := Nat.not_lt.mp (fun z => c83 (nI_lt z (by omega)))
            simp; omega
          rw [hb] at IH
          exact zJ_back (zle_r (zle_r (zle_r (zle_r (zle_r (zle_r (zle_r (zle_n zle_0)))))))) rfl IH
  have hsp : spaM b R n p = match D p with
    | none => -1
    | some v => nI (cB (spaB D v p) 64) := by unfold spaM; rw [hDD]
  rw [hsp]
  refine zJ_aload_n dX6_sparedOf_0 rfl ?_
  refine zJ_aload_n dX6_sparedOf_1 rfl ?_
  refine zJ_iload_n dX6_sparedOf_2 rfl ?_
  refine zJ_iload_n dX6_sparedOf_3 rfl ?_
  refine zP_ecallVi [_, _, _] _ lv_X6_203 (k_X6_distanceTo (d := d - 1) hl (by omega) hs hst hsN hn hp hW hR) (zSt_ob hs 43 6 rfl) rfl (by omega) (Nat.le_of_ble_eq_true rfl) rfl dX6_sparedOf_4 (fun x J hx => ?_)
  rw [hDD] at hx
  obtain ⟨rfl, h1, h2, h3, h4⟩ := hx
  refine zJ_istore dX6_sparedOf_7 (Nat.le_of_ble_eq_true rfl) (by decide) ?_
  refine zJ_iload dX6_sparedOf_9 rfl ?_
  refine zJ_iconst (v := -1) dX6_sparedOf_11 rfl ?_
  refine zJ_icmp_ne 17 dX6_sparedOf_12 (by decide) (fun c12 => ?_) (fun c12 => ?_)
  · skip
    refine zJ_iconst (v := nI 0) dX6_sparedOf_17 rfl ?_
    refine zJ_istore dX6_sparedOf_18 (Nat.le_of_ble_eq_true rfl) (by decide) ?_
    refine zJ_iconst (v := nI 0) dX6_sparedOf_20 rfl ?_
    refine zJ_istore dX6_sparedOf_21 (Nat.le_of_ble_eq_true rfl) (by decide) ?_
    cases e : D p with
    | none => rw [e] at c12; exact absurd rfl c12
    | some v => exact loop J v h1 h2 h3 h4 (h4 p v hp e) 64 0 (by omega)
  · skip
    refine zJ_iconst (v := -1) dX6_sparedOf_15 rfl ?_
    refine zJ_iret rfl dX6_sparedOf_16 ?_
    refine ⟨_, J, rfl, rfl, ?_, h1, h2⟩
    cases e : D p with
    | none => rfl
    | some v => rw [e] at c12; exact absurd c12 (nI_ne1 (by have := h4 p v hp e; omega))
end ZRouter3
