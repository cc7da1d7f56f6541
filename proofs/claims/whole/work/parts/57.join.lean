/-! ===== Joiner.joinParts ===== -/
section ZJoin2
variable {l : Launch} {Xi : zXi} {d : Nat} {I : zI} {g : zG}
def ej : Option Nat → Int32
  | none => nI 1000
  | some v => nI v
def oad : Option Nat → Option Nat → Option Nat
  | some x, some y => some (x + y)
  | _, _ => none
def olt : Option Nat → Option Nat → Option Nat
  | none, c => c
  | some x, none => some x
  | some x, some c => if x < c then some x else some c
def subB (part set : Nat) : Bool := decide ((nI part &&& (nI set ^^^ (-1))) = 0)
def jnN (tab : Nat → Nat → Option Nat) (set : Nat) : Nat → Nat → Option Nat := lp (fun part row => if part = 0 then row else if subB part set then (fun p => olt (oad (tab part p) (tab (set - part) p)) (row p)) else row) (tab set)
def tset (tab : Nat → Nat → Option Nat) (set : Nat) (row : Nat → Option Nat) : Nat → Nat → Option Nat := fun s => if s = set then row else tab s
def sJ (I : zI) (tab : Nat → Nat → Option Nat) : Prop := ∀ s p, s < 8 → p < 64 → I 52 (s * 64 + p) = ej (tab s p)
theorem jn_step {tab : Nat → Nat → Option Nat} {set part p : Nat} (h0 : 0 < part) : jnN tab set (part + 1) p = if subB part set then olt (oad (tab part p) (tab (set - part) p)) (jnN tab set part p) else jnN tab set part p := by
  show (if part = 0 then jnN tab set part else if subB part set then (fun p => olt (oad (tab part p) (tab (set - part) p)) (jnN tab set part p)) else jnN tab set part) p = _
  rw [if_neg (by omega)]
  by_cases e : subB part set = true
  · rw [if_pos e, if_pos e]
  · rw [if_neg e, if_neg e]
theorem olt_le {x c : Option Nat} {B v : Nat} (hx : ∀ u, x = some u → u ≤ B) (hc : ∀ u, c = some u → u ≤ B) (h : olt x c = some v) : v ≤ B := by
  cases x with
  | none => exact hc v h
  | some x =>
    cases c with
    | none => exact hx v h
    | some c =>
      simp only [olt] at h
      split at h
      · exact hx v h
      · exact hc v h
theorem jn_le {tab : Nat → Nat → Option Nat} {set p B A : Nat} (h0 : ∀ u, tab set p = some u → u ≤ A + B) (ha : ∀ k u, 0 < k → k < set → subB k set = true → ∀ w, tab k p = some u → tab (set - k) p = some w → u + w ≤ A + B) : ∀ {k v : Nat}, k ≤ set → jnN tab set k p = some v → v ≤ A + B
  | 0, v, _, h => h0 v h
  | k + 1, v, hk, h => by
    rcases Nat.eq_zero_or_pos k with e | e
    · subst e; exact h0 v h
    · rw [jn_step e] at h
      split at h
      · next hs =>
        refine olt_le (fun u hu => ?_) (fun u hu => jn_le h0 ha (by omega) hu) h
        cases e1 : tab k p with
        | none => rw [e1] at hu; cases hu
        | some x =>
          cases e2 : tab (set - k) p with
          | none => rw [e1, e2] at hu; cases hu
          | some y =>
            rw [e1, e2] at hu
            simp only [oad, Option.some.injEq] at hu
            have := ha k x e (by omega) hs y e1 e2
            omega
      · exact jn_le h0 ha (by omega) h
theorem ej_t {o : Option Nat} (h : ∀ v, o = some v → v ≤ 999) : (ej o).toInt = ((o.getD 1000 : Nat) : Int) := by
  cases o with
  | none => rfl
  | some v =>
    have := h v rfl
    show (nI v).toInt = (v : Int)
    exact nI_toInt (by omega)
theorem ej_add {x y : Option Nat} : ej x + ej y = nI (x.getD 1000 + y.getD 1000) := by
  cases x <;> cases y <;> exact nI_add _ _
theorem ej_cmp {x y c : Option Nat} (hx : ∀ v, x = some v → v ≤ 400) (hy : ∀ v, y = some v → v ≤ 400) (hc : ∀ v, c = some v → v ≤ 999) : (ej c ≤ ej x + ej y → olt (oad x y) c = c) ∧ (¬ ej c ≤ ej x + ej y → olt (oad x y) c = oad x y ∧ ej (oad x y) = ej x + ej y) := by
  have hx2 : x.getD 1000 ≤ 1000 := by cases x with | none => exact Nat.le_refl _ | some v => (have := hx v rfl; show v ≤ 1000; omega)
  have hy2 : y.getD 1000 ≤ 1000 := by cases y with | none => exact Nat.le_refl _ | some v => (have := hy v rfl; show v ≤ 1000; omega)
  have hc2 : c.getD 1000 ≤ 1000 := by cases c with | none => exact Nat.le_refl _ | some v => (have := hc v rfl; show v ≤ 1000; omega)
  have hle : ej c ≤ ej x + ej y ↔ c.getD 1000 ≤ x.getD 1000 + y.getD 1000 := by
    rw [Int32.le_iff_toInt_le, ej_t hc, ej_add, nI_toInt (by omega)]
    omega
  rw [hle]
  cases x with
  | none => exact ⟨fun _ => rfl, fun h => absurd (by show c.getD 1000 ≤ 1000 + y.getD 1000; omega) h⟩
  | some x =>
    cases y with
    | none => exact ⟨fun _ => rfl, fun h => absurd (by show c.getD 1000 ≤ x + 1000; omega) h⟩
    | some y =>
      have h1 := hx x rfl
      have h2 := hy y rfl
      cases c with
      | none =>
        refine ⟨fun h => ?_, fun _ => ⟨rfl, (nI_add x y).symm⟩⟩
        have h3 : 1000 ≤ x + y := h
        omega
      | some c =>
        refine ⟨fun h => ?_, fun h => ⟨?_, (nI_add x y).symm⟩⟩
        · have h3 : c ≤ x + y := h
          simp only [oad, olt]
          rw [if_neg (by omega)]
        · have h3 : ¬ c ≤ x + y := h
          simp only [oad, olt]
          rw [if_pos (by omega)]
set_option maxHeartbeats 1000000 in
theorem k_X4_joinParts (hl : l.stackTraces = false) (hd : 1 ≤ d) (hs : zSt g) {set : Nat} {tab : Nat → Nat → Option Nat} (h1 : 1 ≤ set) (h8 : set < 8) (hT : sJ I tab) (hbd : ∀ s p v, s < 8 → p < 64 → tab s p = some v → v ≤ 400) : zEv l Xi mX4_joinParts d [.ref 49, .int (nI set)] I g (fun J => ∃ f, J = va_up I 52 f ∧ sJ J (tset tab set (jnN tab set set))) := by
  refine zC_of hl rfl rfl rfl (Nat.le_of_ble_eq_true rfl) (zav_r (zSt_ob hs 49 4 rfl).1 (zav_i zav_0)) ?_
  have hjb : ∀ k p v, k ≤ set → p < 64 → jnN tab set k p = some v → v ≤ 400 + 400 := fun k p v hk hp h => jn_le (fun u hu => by have := hbd set p u h8 hp hu; omega) (fun k u h0 hk2 _ w hu hw => by have := hbd k p u (by omega) hp hu; have := hbd (set - k) p w (by omega) hp hw; omega) hk h
  have outer : ∀ m part, part + m = set → 1 ≤ part → ∀ f, sJ (va_up I 52 f) (tset tab set (jnN tab set part)) → zJ l Xi mX4_joinParts d 0 0 2 [some (.ref 49), some (.int (nI set)), some (.int (nI part)), none, none] [] (va_up I 52 f, g) (fun r' h' => r' = .inl none ∧ ∃ I', h' = (I', g) ∧ ∃ f, I' = va_up I 52 f ∧ sJ I' (tset tab set (jnN tab set set))) := by
    intro m
    induction m with
    | zero =>
      intro part hp hp1 f hf
      obtain rfl : part = set := by omega
      refine zJ_iload_n dX4_joinParts_2 rfl ?_
      refine zJ_iload_n dX4_joinParts_3 rfl ?_
      refine zJ_icmp_ge 91 dX4_joinParts_4 (by decide) (fun _ => ?_) (fun c4 => absurd (nI_le (by omega) (by omega)) c4)
      refine zJ_vret rfl dX4_joinParts_91 ?_
      exact ⟨rfl, _, rfl, f, rfl, hf⟩
    | succ m ih =>
      intro part hpm hp1 f hf
      have h85 : ∀ f, sJ (va_up I 52 f) (tset tab set (jnN tab set (part + 1))) → ∀ o3 o4, zJ l Xi mX4_joinParts d 0 0 85 [some (.ref 49), some (.int (nI set)), some (.int (nI part)), o3, o4] [] (va_up I 52 f, g) (fun r' h' => r' = .inl none ∧ ∃ I', h' = (I', g) ∧ ∃ f, I' = va_up I 52 f ∧ sJ I' (tset tab set (jnN tab set set))) := by
        intro f hf o3 o4
        refine zJ_iinc1 dX4_joinParts_85 rfl (by decide) ?_
        refine zJ_goto 2 dX4_joinParts_88 (by decide) ?_
        exact zJ_back (zle_r (zle_r (zle_r (zle_n (zle_n zle_0))))) rfl (ih (part + 1) (by omega) (by omega) f hf)
      by_cases hsub : subB part set = true
      · have hc12 : (nI part &&& (nI set ^^^ (-1))) = 0 := of_decide_eq_true hsub
        have inner : ∀ m p, p + m = 64 → ∀ (f : Nat → Int32), (sJ (va_up I 52 f) (tset tab set (fun q => if q < p then jnN tab set (part + 1) q else jnN tab set part q))) → zJ l Xi mX4_joinParts d 0 0 17 [some (.ref 49), some (.int (nI set)), some (.int (nI part)), some (.int (nI p)), none] [] (va_up I 52 f, g) (fun r' h' => r' = .inl none ∧ ∃ I', h' = (I', g) ∧ ∃ f, I' = va_up I 52 f ∧ sJ I' (tset tab set (jnN tab set set))) := by
          intro m
          induction m with
          | zero =>
            intro p hp f hI
            obtain rfl : p = 64 := by omega
            refine zJ_iload_n dX4_joinParts_17 rfl ?_
            refine zJ_bipush (v := nI 64) dX4_joinParts_18 rfl ?_
            refine zJ_icmp_ge 85 dX4_joinParts_20 (by decide) (fun _ => ?_) (fun c20 => absurd (nI_le (by omega) (by omega)) c20)
            refine zJ_back (zle_r (zle_r (zle_r (zle_r (zle_r zle_0))))) rfl (h85 f (fun s p hs hp => ?_) _ _)
            rw [hI s p hs hp]
            unfold tset
            by_cases e : s = set
            · rw [if_pos e, if_pos e, if_pos hp]
            · rw [if_neg e, if_neg e]
          | succ m ih =>
            intro p hp f hI
            have v1 : va_up I 52 f 52 (part * 64 + p) = ej (tab part p) := by rw [hI part p (by omega) (by omega)]; unfold tset; rw [if_neg (by omega)]
            have v2 : va_up I 52 f 52 ((set - part) * 64 + p) = ej (tab (set - part) p) := by rw [hI (set - part) p (by omega) (by omega)]; unfold tset; rw [if_neg (by omega)]
            have v3 : va_up I 52 f 52 (set * 64 + p) = ej (jnN tab set part p) := by rw [hI set p (by omega) (by omega)]; unfold tset; rw [if_pos rfl, if_neg (by omega)]
            have hcmp := ej_cmp (x := tab part p) (y := tab (set - part) p) (c := jnN tab set part p) (fun v hv => hbd part p v (by omega) (by omega) hv) (fun v hv => hbd (set - part) p v (by omega) (by omega) hv) (fun v hv => by have := hjb part p v (by omega) (by omega) hv; omega)
            have hst := jn_step (tab := tab) (set := set) (p := p) (show 0 < part by omega)
            rw [if_pos hsub] at hst
            refine zJ_iload_n dX4_joinParts_17 rfl ?_
            refine zJ_bipush (v := nI 64) dX4_joinParts_18 rfl ?_
            refine zJ_icmp_ge 85 dX4_joinParts_20 (by decide) (fun c20 => absurd c20 (nI_ge (by omega) (by omega))) (fun _ => ?_)
            refine zJ_aload_n dX4_joinParts_23 rfl ?_
            refine zP_getr lf_X4_18 (zSt_ob hs 49 4 rfl) rfl (zSt_rf hs 49 2 52 rfl) dX4_joinParts_24 ?_
            refine zJ_iload_n dX4_joinParts_27 rfl ?_
            refine zJ_bipush (v := nI 64) dX4_joinParts_28 rfl ?_
            refine zJ_imul dX4_joinParts_30 ?_
            refine zJ_iload_n dX4_joinParts_31 rfl ?_
            refine zJ_iadd dX4_joinParts_32 ?_
            refine zP_iald (zSt_ar hs 52 512 rfl) (by first | assumption | with_reducible exact vp_in_nI (by omega) (by omega) | (simp (disch := omega) only [nI_add, pk_mul, pk_sub, pk_div, pk_rem, nI_clamp]; with_reducible exact vp_in_nI (by omega) (by omega))) dX4_joinParts_33 ?_
            simp (disch := omega) only [nI_add, pk_mul, nI_clamp]
            rw [v1]
            refine zJ_aload_n dX4_joinParts_34 rfl ?_
            refine zP_getr lf_X4_18 (zSt_ob hs 49 4 rfl) rfl (zSt_rf hs 49 2 52 rfl) dX4_joinParts_35 ?_
            refine zJ_iload_n dX4_joinParts_38 rfl ?_
            refine zJ_iload_n dX4_joinParts_39 rfl ?_
            refine zJ_isub dX4_joinParts_40 ?_
            refine zJ_bipush (v := nI 64) dX4_joinParts_41 rfl ?_
            rw [pk_sub (by omega)]
            refine zJ_imul dX4_joinParts_43 ?_
            refine zJ_iload_n dX4_joinParts_44 rfl ?_
            refine zJ_iadd dX4_joinParts_45 ?_
            refine zP_iald (zSt_ar hs 52 512 rfl) (by first | assumption | with_reducible exact vp_in_nI (by omega) (by omega) | (simp (disch := omega) only [nI_add, pk_mul, pk_sub, pk_div, pk_rem, nI_clamp]; with_reducible exact vp_in_nI (by omega) (by omega))) dX4_joinParts_46 ?_
            simp (disch := omega) only [nI_add, pk_mul, nI_clamp]
            rw [v2]
            refine zJ_iadd dX4_joinParts_47 ?_
            refine zJ_istore dX4_joinParts_48 (Nat.le_of_ble_eq_true rfl) (by decide) ?_
            refine zJ_iload dX4_joinParts_50 rfl ?_
            refine zJ_aload_n dX4_joinParts_52 rfl ?_
            refine zP_getr lf_X4_18 (zSt_ob hs 49 4 rfl) rfl (zSt_rf hs 49 2 52 rfl) dX4_joinParts_53 ?_
            refine zJ_iload_n dX4_joinParts_56 rfl ?_
            refine zJ_bipush (v := nI 64) dX4_joinParts_57 rfl ?_
            refine zJ_imul dX4_joinParts_59 ?_
            refine zJ_iload_n dX4_joinParts_60 rfl ?_
            refine zJ_iadd dX4_joinParts_61 ?_
            refine zP_iald (zSt_ar hs 52 512 rfl) (by first | assumption | with_reducible exact vp_in_nI (by omega) (by omega) | (simp (disch := omega) only [nI_add, pk_mul, pk_sub, pk_div, pk_rem, nI_clamp]; with_reducible exact vp_in_nI (by omega) (by omega))) dX4_joinParts_62 ?_
            simp (disch := omega) only [nI_add, pk_mul, nI_clamp]
            rw [v3]
            refine zJ_icmp_ge 79 dX4_joinParts_63 (by decide) (fun c63 => ?_) (fun c63 => ?_)
            · skip
              refine zJ_iinc1 dX4_joinParts_79 rfl (by decide) ?_
              refine zJ_goto 17 dX4_joinParts_82 (by decide) ?_
              rw [hcmp.1 c63] at hst
              refine zJ_back (zle_r (zle_r (zle_r (zle_r (zle_n zle_0))))) rfl (ih (p + 1) (by omega) f (fun s q hs hq => ?_))
              rw [hI s q hs hq]
              unfold tset
              by_cases e : s = set
              · rw [if_pos e, if_pos e]
                by_cases e2 : q = p
                · rw [e2, if_neg (by omega), if_pos (by omega), hst]
                · by_cases e3 : q < p
                  · rw [if_pos e3, if_pos (by omega)]
                  · rw [if_neg e3, if_neg (by omega)]
              · rw [if_neg e, if_neg e]
            · skip
              refine zJ_aload_n dX4_joinParts_66 rfl ?_
              refine zP_getr lf_X4_18 (zSt_ob hs 49 4 rfl) rfl (zSt_rf hs 49 2 52 rfl) dX4_joinParts_67 ?_
              refine zJ_iload_n dX4_joinParts_70 rfl ?_
              refine zJ_bipush (v := nI 64) dX4_joinParts_71 rfl ?_
              refine zJ_imul dX4_joinParts_73 ?_
              refine zJ_iload_n dX4_joinParts_74 rfl ?_
              refine zJ_iadd dX4_joinParts_75 ?_
              refine zJ_iload dX4_joinParts_76 rfl ?_
              refine zP_iast (zSt_ar hs 52 512 rfl) (by first | assumption | with_reducible exact vp_in_nI (by omega) (by omega) | (simp (disch := omega) only [nI_add, pk_mul, pk_sub, pk_div, pk_rem, nI_clamp]; with_reducible exact vp_in_nI (by omega) (by omega))) dX4_joinParts_78 ?_
              refine zJ_iinc1 dX4_joinParts_79 rfl (by decide) ?_
              refine zJ_goto 17 dX4_joinParts_82 (by decide) ?_
              obtain ⟨k1, k2⟩ := hcmp.2 c63
              rw [k1] at hst
              rw [pk_mul, nI_add, nI_clamp (by omega), zup_va]
              refine zJ_back (zle_r (zle_r (zle_r (zle_r (zle_n zle_0))))) rfl (ih (p + 1) (by omega) _ (fun s q hs hq => ?_))
              rw [va_up_same]
              by_cases e4 : s * 64 + q = set * 64 + p
              · obtain ⟨e5, e6⟩ : s = set ∧ q = p := by omega
                rw [e4, upd_at, ← k2]
                unfold tset
                rw [if_pos e5, e6, if_pos (by omega), hst]
              · rw [upd_ne e4]
                have := hI s q hs hq
                rw [va_up_same] at this
                rw [this]
                unfold tset
                by_cases e : s = set
                · rw [if_pos e, if_pos e]
                  by_cases e3 : q < p
                  · rw [if_pos e3, if_pos (by omega)]
                  · rw [if_neg e3, if_neg (by omega)]
                · rw [if_neg e, if_neg e]
        refine zJ_iload_n dX4_joinParts_2 rfl ?_
        refine zJ_iload_n dX4_joinParts_3 rfl ?_
        refine zJ_icmp_ge 91 dX4_joinParts_4 (by decide) (fun c4 => absurd c4 (nI_ge (by omega) (by omega))) (fun _ => ?_)
        refine zJ_iload_n dX4_joinParts_7 rfl ?_
        refine zJ_iload_n dX4_joinParts_8 rfl ?_
        refine zJ_iconst (v := -1) dX4_joinParts_9 rfl ?_
        refine zJ_ixor dX4_joinParts_10 ?_
        refine zJ_iand dX4_joinParts_11 ?_
        refine zJ_if_ne 85 dX4_joinParts_12 (by decide) (fun c12 => absurd hc12 c12) (fun _ => ?_)
        refine zJ_iconst (v := nI 0) dX4_joinParts_15 rfl ?_
        refine zJ_istore_m 3 dX4_joinParts_16 rfl (Nat.le_of_ble_eq_true rfl) (by decide) ?_
        refine inner 64 0 (by omega) f (fun s p hs hp => ?_)
        rw [hf s p hs hp]
        unfold tset
        by_cases e : s = set
        · rw [if_pos e, if_pos e, if_neg (by omega)]
        · rw [if_neg e, if_neg e]
      · have hc12 : ¬ (nI part &&& (nI set ^^^ (-1))) = 0 := fun z => hsub (decide_eq_true z)
        refine zJ_iload_n dX4_joinParts_2 rfl ?_
        refine zJ_iload_n dX4_joinParts_3 rfl ?_
        refine zJ_icmp_ge 91 dX4_joinParts_4 (by decide) (fun c4 => absurd c4 (nI_ge (by omega) (by omega))) (fun _ => ?_)
        refine zJ_iload_n dX4_joinParts_7 rfl ?_
        refine zJ_iload_n dX4_joinParts_8 rfl ?_
        refine zJ_iconst (v := -1) dX4_joinParts_9 rfl ?_
        refine zJ_ixor dX4_joinParts_10 ?_
        refine zJ_iand dX4_joinParts_11 ?_
        refine zJ_if_ne 85 dX4_joinParts_12 (by decide) (fun _ => ?_) (fun c12 => absurd c12 hc12)
        refine h85 f (fun s p hs hp => ?_) _ _
        rw [hf s p hs hp]
        unfold tset
        by_cases e : s = set
        · rw [if_pos e, if_pos e, jn_step (by omega), if_neg hsub]
        · rw [if_neg e, if_neg e]
  refine zJ_iconst (v := nI 1) dX4_joinParts_0 rfl ?_
  refine zJ_istore_m 2 dX4_joinParts_1 rfl (Nat.le_of_ble_eq_true rfl) (by decide) ?_
  refine zJ_back (zle_r (zle_r (zle_r (zle_n (zle_n zle_0))))) (by rw [va_up_self2]) (outer (set - 1) 1 (by omega) (by omega) (I 52) (fun s p hs hp => ?_))
  rw [va_up_same, hT s p hs hp]
  unfold tset
  by_cases e : s = set
  · rw [if_pos e, e]; rfl
  · rw [if_neg e]
end ZJoin2
