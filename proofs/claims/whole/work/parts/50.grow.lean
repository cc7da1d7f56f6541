/-! ===== Router: laying back, growing ===== -/
section ZGrow2
variable {l : Launch} {Xi : zXi} {d : Nat} {I : zI} {g : zG}
theorem np_fin {b : zWo} {T : Nat → Bool} {D F : Nat → Option Nat} {n : Nat} {Bd : Option Nat} (h64 : ∀ i, i < bpc b n → bpn b n i < 64) (h1 : ∀ p, p < 64 → (∀ v, D p = some v → (∀ b, Bd = some b → v ≤ b) → F p = some v) ∧ ∀ v, F p = some v → v ≤ 64000 ∧ ∃ v', D p = some v' ∧ v' ≤ v) (hT : ∀ p, p < 64 → T p = true → D p = some 0) (h3 : ∀ x, Bd = some x → 0 < x ∧ ∃ i, i < bpc b n ∧ D (bpn b n i) = some x) : ∃ m, (∀ p v, p < 64 → D p = some v → v ≤ m → F p = some v) ∧ npM b T F n (bpc b n) = npM b T D n (bpc b n) ∧ ∀ q u, npM b T D n (bpc b n) = some (q, u) → u ≤ m := by
  cases Bd with
  | none =>
    have hFD : ∀ p, p < 64 → F p = D p := fun p hp => by
      cases e : D p with
      | none =>
        cases e2 : F p with
        | none => rfl
        | some v => obtain ⟨-, v', h4, -⟩ := (h1 p hp).2 v e2; rw [e] at h4; cases h4
      | some v => exact (h1 p hp).1 v e (fun b hb => by cases hb)
    refine ⟨64000, fun p v hp hD _ => by rw [hFD p hp]; exact hD, np_congr (fun i hi => ⟨rfl, hFD _ (h64 i hi)⟩), fun q u h => ?_⟩
    obtain ⟨-, h5, i, hi, e⟩ := np_in h
    have hq : q < 64 := by rw [← e]; exact h64 i hi
    exact ((h1 q hq).2 u (by rw [hFD q hq]; exact h5)).1
  | some m =>
    have g1 : ∀ p v, p < 64 → D p = some v → v ≤ m → F p = some v := fun p v hp hD hv => (h1 p hp).1 v hD (fun b hb => by cases hb; exact hv)
    have g2 : ∀ p v, p < 64 → F p = some v → ∃ v', D p = some v' ∧ v' ≤ v := fun p v hp hF => ((h1 p hp).2 v hF).2
    obtain ⟨hm, i, hi, hDi⟩ := h3 m rfl
    have hTi : T (bpn b n i) = false := by
      cases e : T (bpn b n i) with
      | false => rfl
      | true => have := hT _ (h64 i hi) e; rw [hDi] at this; injection this with this; omega
    obtain ⟨q0, u0, e0, le0⟩ := np_le (b := b) (T := T) (D := D) (n := n) hTi hDi hi
    refine ⟨m, g1, ?_⟩
    rcases np_FD (T := T) h64 g1 g2 (Nat.le_refl (bpc b n)) with ⟨q, u, j1, j2, j3⟩ | ⟨-, j2⟩
    · exact ⟨by rw [j1, j2], fun q' u' h => by rw [j2] at h; cases h; exact j3⟩
    · have := j2 q0 u0 e0
      omega
theorem wb_some {b : zWo} {D : Nat → Option Nat} {c : Nat → Nat} {p v : Nat} (hv : v < 4) (h : wbB b D c p v = true) (hm : ∀ v', v' < v → wbB b D c p v' = false) : wbM b D c p = some v := by
  have h4 : v = 0 ∨ v = 1 ∨ v = 2 ∨ v = 3 := by omega
  unfold wbM
  rcases h4 with rfl | rfl | rfl | rfl
  · rw [h]; rfl
  · rw [h, hm 0 (by omega)]; rfl
  · rw [h, hm 0 (by omega), hm 1 (by omega)]; rfl
  · rw [h, hm 0 (by omega), hm 1 (by omega), hm 2 (by omega)]; rfl
theorem wb_none {b : zWo} {D : Nat → Option Nat} {c : Nat → Nat} {p : Nat} (h : ∀ v, v < 4 → wbB b D c p v = false) : wbM b D c p = none := by
  unfold wbM
  rw [h 0 (by omega), h 1 (by omega), h 2 (by omega), h 3 (by omega)]; rfl
theorem enc_inj {o : Option Nat} {v : Nat} (hv : v ≤ 64000) (ho : ∀ u, o = some u → u ≤ 64000) : enc o = nI v ↔ o = some v := by
  cases o with
  | none =>
    refine ⟨fun h => ?_, fun h => by cases h⟩
    have h2 : (enc none).toInt = (nI v).toInt := by rw [h]
    rw [nI_toInt (by omega), show (enc none).toInt = 1000000 by decide] at h2
    omega
  | some u =>
    have := ho u rfl
    show nI u = nI v ↔ _
    rw [nI_eq (by omega) (by omega)]
    exact ⟨fun h => by rw [h], fun h => by injection h⟩
theorem k_X6_layBack (hl : l.stackTraces = false) (hd : 3 ≤ d) (hs : zSt g) {s n pin mm : Nat} {b : zWo} {R : Nat → Int32} {c : Nat → Nat} {D F : Nat → Option Nat} {wl : Nat → Bool} {ad : Nat → Nat → Prop} (hst : zK g s 8 zLt_State) (hsN : 60 < s) (hn : n < 6) (hW : zWi I b) (hR : zRow I s R) (hF : ∀ q, q < 64 → I 46 q = enc (F q)) (hpr : ∀ q, q < 64 → (I 47 q = 0 ∧ (F q = none ∨ tin R n q = true)) ∨ I 47 q = nI (c q)) (hD : FPd (tin R n) wl ad c D) (hm : ∀ p v, p < 64 → D p = some v → v ≤ mm → F p = some v) (hFD : ∀ p v, p < 64 → F p = some v → v ≤ 64000 ∧ ∃ v', D p = some v' ∧ v' ≤ v) (hpin : pin < 64 ∧ ∃ v, D pin = some v ∧ v ≤ mm) : zEv l Xi mX6_layBack d [.ref 43, .ref s, .int (nI n), .int (nI pin)] I g (fun J => fX s I J ∧ J 47 = I 47 ∧ zRow J s (layM b D c n 64 (some pin) R)) := by
  refine zC_of hl rfl rfl rfl (Nat.le_of_ble_eq_true rfl) (zav_r (zSt_ob hs 43 6 rfl).1 (zav_r hst.1.1 (zav_i (zav_i zav_0)))) ?_
  obtain ⟨V, hV⟩ : ∃ V, layM b D c n 64 (some pin) R = V := ⟨_, rfl⟩
  rw [hV]
  -- at a place that is not in the tree
  have key : ∀ p, p < 64 → tin R n p = false → (∃ v, D p = some v ∧ v ≤ mm) → ∀ v, v < 4 → (wbB b D c p v = true ↔ ∃ e, nbr b p v = some e ∧ I 46 e = I 46 p - I 47 p) := by
    intro p hp hT ⟨x, hx, hxm⟩ v hv
    have hwl : wl p = false := by
      cases e : wl p with
      | false => rfl
      | true => have := (hD p hp).2.1 hT e; rw [hx] at this; cases this
    obtain ⟨e0, a0, -, -, -, hxa⟩ := ((hD p hp).2.2 hT hwl).2 x hx
    have hFp := hm p x hp hx hxm
    have hx64 := (hFD p x hp hFp).1
    have h47 : I 47 p = nI (c p) := (hpr p hp).resolve_left (fun z => by rcases z.2 with z | z; rw [hFp] at z; cases z; rw [hT] at z; cases z)
    have h46 : I 46 p - I 47 p = nI (x - c p) := by rw [hF p hp, hFp, h47]; exact pk_sub (by omega)
    rw [h46]
    unfold wbB
    cases hnb : nbr b p v with
    | none => exact ⟨fun h => (by cases h), fun ⟨e, h, _⟩ => (by cases h)⟩
    | some e =>
      have he := nbr_lt hW.1 hp hnb
      have hq : I 46 e = nI (x - c p) ↔ D e = some (x - c p) := by
        rw [hF e he, enc_inj (by omega) (fun u hu => (hFD e u he hu).1)]
        constructor
        · intro h
          obtain ⟨-, v', h1, h2⟩ := hFD e _ he h
          have := hm e v' he h1 (by omega)
          rw [h] at this
          injection this with this
          rw [h1, this]
        · intro h
          exact hm e _ he h (by omega)
      simp only
      constructor
      · intro h
        cases hDe : D e with
        | none => rw [hDe] at h; cases h
        | some y =>
          rw [hDe] at h
          have h2 := of_decide_eq_true h
          rw [hx] at h2
          injection h2 with h2
          exact ⟨e, rfl, hq.mpr (by rw [hDe]; congr 1; omega)⟩
      · intro ⟨e', h1, h2⟩
        cases h1
        rw [hq.mp h2]
        exact decide_eq_true (by rw [hx]; congr 1; omega)
  have loop : ∀ m k, k + m = 64 → ∀ (J : zI) (o : Option Nat) (Q : Nat → Int32), (fX s I J ∧ J 46 = I 46 ∧ J 47 = I 47 ∧ zRow J s Q ∧ layM b D c n (64 - k) o Q = V ∧ (∀ q, q < 64 → tin R n q = true → tin Q n q = true) ∧ ∀ q, o = some q → q < 64 ∧ ∃ v, D q = some v ∧ v ≤ mm) → zJ l Xi mX6_layBack d 0 0 6 [some (.ref 43), some (.ref s), some (.int (nI n)), some (.int (nI pin)), some (.int (oI o)), some (.int (nI k)), none] [] (J, g) (fun r' h' => r' = .inl none ∧ ∃ I', h' = (I', g) ∧ fX s I I' ∧ I' 47 = I 47 ∧ zRow I' s V) := by
    intro m
    induction m with
    | zero =>
      intro k hp J o Q hI
      obtain rfl : k = 64 := by omega
      refine zJ_iload dX6_layBack_6 rfl ?_
      refine zJ_bipush (v := nI 64) dX6_layBack_8 rfl ?_
      refine zJ_icmp_ge 76 dX6_layBack_10 (by decide) (fun _ => ?_) (fun c10 => absurd (nI_le (by omega) (by omega)) c10)
      refine zJ_vret rfl dX6_layBack_76 ?_
      obtain ⟨h1, h2, h3, h4, h5, h6, h7⟩ := hI
      simp only [Nat.sub_self, layM] at h5
      exact ⟨rfl, J, rfl, h1, h3, by rw [← h5]; exact h4⟩
    | succ m ih =>
      intro k hp J o Q hI
      obtain ⟨h1, h2, h3, h4, h5, h6, h7⟩ := hI
      have hWJ := zWi_fX hsN hW h1
      refine zJ_iload dX6_layBack_6 rfl ?_
      refine zJ_bipush (v := nI 64) dX6_layBack_8 rfl ?_
      refine zJ_icmp_ge 76 dX6_layBack_10 (by decide) (fun c10 => absurd c10 (nI_ge (by omega) (by omega))) (fun _ => ?_)
      refine zJ_iload dX6_layBack_13 rfl ?_
      refine zJ_iconst (v := -1) dX6_layBack_15 rfl ?_
      refine zJ_icmp_eq 76 dX6_layBack_16 (by decide) (fun c16 => ?_) (fun c16 => ?_)
      · skip
        refine zJ_vret rfl dX6_layBack_76 ?_
        have ho : o = none := by
          cases o with
          | none => rfl
          | some q => exact absurd c16 (nI_ne1 (by have := (h7 q rfl).1; omega))
        subst ho
        rw [show 64 - k = (64 - (k + 1)) + 1 by omega] at h5
        simp only [layM] at h5
        exact ⟨rfl, J, rfl, h1, h3, by rw [← h5]; exact h4⟩
      · skip
        obtain ⟨p, rfl⟩ : ∃ q, o = some q := by cases o with | none => exact absurd rfl c16 | some q => exact ⟨q, rfl⟩
        obtain ⟨hp, hDp⟩ := h7 p rfl
        rw [show 64 - k = (64 - (k + 1)) + 1 by omega] at h5
        simp only [layM] at h5
        refine zJ_aload_n dX6_layBack_19 rfl ?_
        refine zJ_iload_n dX6_layBack_20 rfl ?_
        refine zJ_iload dX6_layBack_21 rfl ?_
        refine zP_callVi [_, _] _ lv_X6_127 (k_has (d := d - 1) hl (by omega) hst hn hp) hst.1 rfl (by omega) (Nat.le_of_ble_eq_true rfl) rfl dX6_layBack_23 ?_
        rw [zRow_has h4 hn hp]
        refine zJ_if_ne 76 dX6_layBack_26 (by decide) (fun c26 => ?_) (fun c26 => ?_)
        · replace c26 := zb1.mp c26
          refine zJ_vret rfl dX6_layBack_76 ?_
          rw [c26] at h5
          simp only [if_true] at h5
          exact ⟨rfl, J, rfl, h1, h3, by rw [← h5]; exact h4⟩
        · replace c26 := zb0.mp c26
          refine zJ_aload_n dX6_layBack_29 rfl ?_
          refine zJ_iload dX6_layBack_30 rfl ?_
          refine zP_ecallVi [_] _ lv_X6_184 (k_X6_wayBack (d := d - 1) hl (by omega) hs (bok_W hWJ) hp) (zSt_ob hs 43 6 rfl) rfl (by omega) (Nat.le_of_ble_eq_true rfl) rfl dX6_layBack_32 (fun x J1 hx => ?_)
          obtain ⟨rfl, hx⟩ := hx
          have hTp : tin R n p = false := by cases e : tin R n p with | false => rfl | true => rw [h6 p hp e] at c26; cases c26
          have hk := key p hp hTp hDp
          rw [c26] at h5
          simp only [Bool.false_eq_true, if_false] at h5
          refine zJ_istore dX6_layBack_35 (Nat.le_of_ble_eq_true rfl) (by decide) ?_
          refine zJ_iload dX6_layBack_37 rfl ?_
          refine zJ_iconst (v := -1) dX6_layBack_39 rfl ?_
          refine zJ_icmp_ne 44 dX6_layBack_40 (by decide) (fun c40 => ?_) (fun c40 => ?_)
          · skip
            obtain ⟨v, e, hv, rfl, he, he64, h46, hmin⟩ := hx.resolve_left (fun z => c40 z.1)
            refine zJ_aload_n dX6_layBack_44 rfl ?_
            refine zJ_iload_n dX6_layBack_45 rfl ?_
            refine zJ_iload dX6_layBack_46 rfl ?_
            refine zJ_iload dX6_layBack_48 rfl ?_
            refine zP_callVv [_, _, _] _ lv_X6_80 (k_X8_put (d := d - 1) hl (by omega) hst hn hp) hst.1 rfl (by omega) (Nat.le_of_ble_eq_true rfl) rfl dX6_layBack_50 ?_
            simp only [show oI (some p) = nI p from rfl]
            refine zJ_aload_n dX6_layBack_53 rfl ?_
            refine zP_getr lf_X6_28 (zSt_ob hs 43 6 rfl) rfl (zSt_rf hs 43 0 3 rfl) dX6_layBack_54 ?_
            refine zP_getr lf_X6_175 (zSt_ob hs 3 0 rfl) rfl (zSt_rf hs 3 11 11 rfl) dX6_layBack_57 ?_
            refine zJ_iload dX6_layBack_60 rfl ?_
            refine zJ_iconst (v := nI 4) dX6_layBack_62 rfl ?_
            refine zJ_imul dX6_layBack_63 ?_
            refine zJ_iload dX6_layBack_64 rfl ?_
            refine zJ_iadd dX6_layBack_66 ?_
            refine zP_iald (zSt_ar hs 11 256 rfl) (by first | assumption | with_reducible exact vp_in_nI (by omega) (by omega) | (simp (disch := omega) only [nI_add, pk_mul, pk_sub, pk_div, pk_rem, nI_clamp]; with_reducible exact vp_in_nI (by omega) (by omega))) dX6_layBack_67 ?_
            simp (disch := omega) only [nI_add, pk_mul, nI_clamp]
            rw [f_put_row (by omega) (by omega), hWJ.2.2.2.2.2.2.1 p v hp hv]
            refine zJ_istore dX6_layBack_68 (Nat.le_of_ble_eq_true rfl) (by decide) ?_
            refine zJ_iinc1 dX6_layBack_70 rfl (by decide) ?_
            refine zJ_goto 6 dX6_layBack_73 (by decide) ?_
            rw [un_nbr hWJ hp hv] at he
            have hwb : wbM b D c p = some v := wb_some hv ((hk v hv).mpr ⟨e, he, by rw [← h2, ← h3]; exact h46⟩) (fun v' hv' => by
              cases z : wbB b D c p v' with
              | false => rfl
              | true =>
                obtain ⟨e', j1, j2⟩ := (hk v' (by omega)).mp z
                exact absurd (by rw [h2, h3]; exact j2) (hmin v' hv' e' (by rw [un_nbr hWJ hp (by omega)]; exact j1)))
            rw [hwb] at h5
            simp only at h5
            refine zJ_back (zle_r (zle_r (zle_r (zle_r (zle_r (zle_r (zle_n zle_0))))))) rfl (ih (k + 1) (by omega) _ _ _ ⟨fX_put h1, by rw [f_put_row (by omega) (by omega)]; exact h2, by rw [f_put_row (by omega) (by omega)]; exact h3, zRow_put hn hp (nI_ne1 (by omega)) h4, h5, fun q hq hT => ?_, fun q hq => ?_⟩)
            · rw [tin_upd hn hp hn hq]
              split
              · exact decide_eq_true (nI_ne1 (by omega))
              · exact h6 q hq hT
            · rw [he] at hq
              cases hq
              refine ⟨he64, ?_⟩
              have hw := (hk v hv).mpr ⟨e, he, by rw [← h2, ← h3]; exact h46⟩
              obtain ⟨x, hx1, hx2⟩ := hDp
              unfold wbB at hw
              rw [he] at hw
              simp only at hw
              cases hDe : D e with
              | none => rw [hDe] at hw; cases hw
              | some y =>
                rw [hDe] at hw
                have h9 := of_decide_eq_true hw
                rw [hx1] at h9
                injection h9 with h9
                exact ⟨y, rfl, by omega⟩
          · skip
            refine zJ_vret rfl dX6_layBack_43 ?_
            have hwb : wbM b D c p = none := wb_none (fun v' hv' => by
              rcases hx with ⟨-, hno⟩ | ⟨v, _, hv4, hxv, -⟩
              · cases z : wbB b D c p v' with
                | false => rfl
                | true =>
                  obtain ⟨e', j1, j2⟩ := (hk v' hv').mp z
                  exact absurd (by rw [h2, h3]; exact j2) (hno v' hv' e' (by rw [un_nbr hWJ hp hv']; exact j1))
              · rw [hxv] at c40
                exact absurd c40 (nI_ne1 (by omega)))
            rw [hwb] at h5
            simp only at h5
            exact ⟨rfl, J1, rfl, h1, h3, by rw [← h5]; exact h4⟩
  refine zJ_iload_n dX6_layBack_0 rfl ?_
  refine zJ_istore dX6_layBack_1 (Nat.le_of_ble_eq_true rfl) (by decide) ?_
  refine zJ_iconst (v := nI 0) dX6_layBack_3 rfl ?_
  refine zJ_istore dX6_layBack_4 (Nat.le_of_ble_eq_true rfl) (by decide) ?_
  exact loop 64 0 (by omega) I (some pin) R ⟨fX_rfl, rfl, rfl, hR, hV, fun q _ h => h, fun q h => by cases h; exact hpin⟩
theorem nm_congr {b : zWo} {R Q : Nat → Int32} {n q : Nat} (h : oth Q n q = oth R n q) (h2 : ∀ k, 384 ≤ k → Q k = R k) : nmM b Q n q = nmM b R n q := by
  funext k
  unfold nmM
  split <;> first | rfl | (rw [h]) | (exact h2 _ (by omega))
theorem cst_upd {b : zWo} {R : Nat → Int32} {n p q : Nat} {w : Int32} (hn : n < 6) (hp : p < 64) (hq : q < 64) : cstM b (upd R (n * 64 + p) w) n q = cstM b R n q := by
  unfold cstM
  rw [nm_congr (oth_upd hn hp hq) (fun k hk => upd_ne (by omega))]
theorem cst_lay {b : zWo} (hb : bdOk b) {D : Nat → Option Nat} {c : Nat → Nat} {n q : Nat} (hn : n < 6) (hq : q < 64) : ∀ {k : Nat} {o : Option Nat} {R : Nat → Int32}, (∀ p, o = some p → p < 64) → cstM b (layM b D c n k o R) n q = cstM b R n q
  | 0, _, _, _ => rfl
  | _ + 1, none, _, _ => rfl
  | k + 1, some p, R, h => by
    have hp := h p rfl
    simp only [layM]
    split
    · rfl
    · split
      · rfl
      · rw [cst_lay hb hn hq (fun x hx => nbr_lt hb hp hx), cst_upd hn hp hq]
theorem jnd_R {b : zWo} {R : Nat → Int32} {s n : Nat} (hW : zWi I b) (hR : zRow I s R) (hn : n < 6) : jnd (I (s + 1)) (bpc b) (bpn b) n = jnd R (bpc b) (bpn b) n := by
  have h : ∀ k, k ≤ bpc b n → allB (fun i => tin (I (s + 1)) n (bpn b n i)) k = allB (fun i => tin R n (bpn b n i)) k := by
    intro k
    induction k with
    | zero => intro _; rfl
    | succ k ih =>
      intro hk
      simp only [allB]
      rw [ih (by omega), zRow_tin hR hn (hW.2.1.2.2.2.2.2.2.2 n k hn (by omega)).2]
  exact h _ (Nat.le_refl _)
theorem k_X6_grow (hl : l.stackTraces = false) (hd : 5 ≤ d) (hs : zSt g) {s n : Nat} {b : zWo} {R : Nat → Int32} (hst : zK g s 8 zLt_State) (hsN : 60 < s) (hn : n < 6) (hnN : n < bN b) (hW : zWi I b) (hR : zRow I s R) : zEv l Xi mX6_grow d [.ref 43, .ref s, .int (nI n)] I g (fun J => fX s I J ∧ zRow J s (growM b n 4 R)) := by
  refine zC_of hl rfl rfl rfl (Nat.le_of_ble_eq_true rfl) (zav_r (zSt_ob hs 43 6 rfl).1 (zav_r hst.1.1 (zav_i zav_0))) ?_
  obtain ⟨V, hV⟩ : ∃ V, growM b n 4 R = V := ⟨_, rfl⟩
  rw [hV]
  have h64 : ∀ i, i < bpc b n → bpn b n i < 64 := fun i hi => (hW.2.1.2.2.2.2.2.2.2 n i hn hi).2
  have loop : ∀ m k, k + m = 4 → ∀ (J : zI) (Q : Nat → Int32), (fX s I J ∧ zRow J s Q ∧ (∀ q, q < 64 → J 47 q = 0 ∨ J 47 q = nI (cstM b Q n q)) ∧ growM b n (4 - k) Q = V) → zJ l Xi mX6_grow d 0 0 10 [some (.ref 43), some (.ref s), some (.int (nI n)), some (.int (nI k)), none] [] (J, g) (fun r' h' => r' = .inl none ∧ ∃ I', h' = (I', g) ∧ fX s I I' ∧ zRow I' s V) := by
    intro m
    induction m with
    | zero =>
      intro k hp J Q hI
      obtain rfl : k = 4 := by omega
      refine zJ_iload_n dX6_grow_10 rfl ?_
      refine zJ_iconst (v := nI 4) dX6_grow_11 rfl ?_
      refine zJ_icmp_ge 63 dX6_grow_12 (by decide) (fun _ => ?_) (fun c12 => absurd (nI_le (by omega) (by omega)) c12)
      refine zJ_vret rfl dX6_grow_63 ?_
      obtain ⟨h1, h2, h3, h4⟩ := hI
      simp only [Nat.sub_self, growM] at h4
      exact ⟨rfl, J, rfl, h1, by rw [← h4]; exact h2⟩
    | succ m ih =>
      intro k hp J Q hI
      obtain ⟨h1, h2, h3, h4⟩ := hI
      have hWJ := zWi_fX hsN hW h1
      rw [show 4 - k = (4 - (k + 1)) + 1 by omega] at h4
      simp only [growM] at h4
      refine zJ_iload_n dX6_grow_10 rfl ?_
      refine zJ_iconst (v := nI 4) dX6_grow_11 rfl ?_
      refine zJ_icmp_ge 63 dX6_grow_12 (by decide) (fun c12 => absurd c12 (nI_ge (by omega) (by omega))) (fun _ => ?_)
      refine zJ_aload_n dX6_grow_15 rfl ?_
      refine zP_getr lf_X6_36 (zSt_ob hs 43 6 rfl) rfl (zSt_rf hs 43 2 41 rfl) dX6_grow_16 ?_
      refine zJ_aload_n dX6_grow_19 rfl ?_
      refine zJ_iload_n dX6_grow_20 rfl ?_
      refine zP_callVi [_, _] _ lv_X6_102 (k_X9_isJoined (d := d - 1) hl (by omega) hs hWJ.2.1 hst hn) (zSt_ob hs 41 9 rfl) rfl (by omega) (Nat.le_of_ble_eq_true rfl) rfl dX6_grow_21 ?_
      rw [jnd_R hWJ h2 hn]
      refine zJ_if_ne 63 dX6_grow_24 (by decide) (fun c24 => ?_) (fun c24 => ?_)
      · replace c24 := zb1.mp c24
        refine zJ_vret rfl dX6_grow_63 ?_
        rw [c24] at h4
        simp only [if_true] at h4
        exact ⟨rfl, J, rfl, h1, by rw [← h4]; exact h2⟩
      · replace c24 := zb0.mp c24
        refine zJ_aload_n dX6_grow_27 rfl ?_
        refine zJ_aload_n dX6_grow_28 rfl ?_
        refine zJ_iload_n dX6_grow_29 rfl ?_
        refine zJ_iconst (v := nI 0) dX6_grow_30 rfl ?_
        refine zP_ecallVv [_, _, _] _ lv_X6_145 (k_spread (whole := false) (d := d - 1) hl (by omega) hs hst hsN hn hWJ h2 h3) (zSt_ob hs 43 6 rfl) rfl (by omega) (Nat.le_of_ble_eq_true rfl) rfl dX6_grow_31 (fun J1 hx => ?_)
        obtain ⟨hsb, F, Bd, y0, y1, y2, y3, -⟩ := hx
        have hW1 := zWi_fX hsN hWJ (fX_sb (s := s) hsb)
        have hR1 := zRow_sb hsN h2 hsb
        have y0' : ∀ q, q < 64 → (J1 47 q = 0 ∧ (F q = none ∨ tin Q n q = true)) ∨ J1 47 q = nI (cstM b Q n q) := fun q hq => by rw [← zRow_tin h2 hn hq]; exact y0 q hq
        obtain ⟨mm, m1, m2, m3⟩ := np_fin (T := tin Q n) (Bd := Bd) h64 y2 (fun p hp hT => (DM_FP (b := b) p hp).1 hT) (fun x hx => ⟨(y3 x hx).1, by obtain ⟨-, q, hq, j1, j2⟩ := y3 x hx; rw [hWJ.2.2.2.2.2.1 q hq, bit_F hnN hW.1.2.2.2.2.1] at j1; obtain ⟨i, i1, i2⟩ := anyB_iff.mp j1; exact ⟨i, i1, by rw [of_decide_eq_true i2]; exact j2⟩⟩)
        refine zJ_aload_n dX6_grow_34 rfl ?_
        refine zJ_aload_n dX6_grow_35 rfl ?_
        refine zJ_iload_n dX6_grow_36 rfl ?_
        refine zP_callVi [_, _] _ lv_X6_149 (k_X6_nearestPin (d := d - 1) (F := F) hl (by omega) hs hst hn hW1 hR1 y1 (fun q v hq hv => ((y2 q hq).2 v hv).1)) (zSt_ob hs 43 6 rfl) rfl (by omega) (Nat.le_of_ble_eq_true rfl) rfl dX6_grow_37 ?_
        rw [m2]
        rw [c24] at h4
        simp only [Bool.false_eq_true, if_false] at h4
        refine zJ_istore dX6_grow_40 (Nat.le_of_ble_eq_true rfl) (by decide) ?_
        refine zJ_iload dX6_grow_42 rfl ?_
        refine zJ_iconst (v := -1) dX6_grow_44 rfl ?_
        refine zJ_icmp_ne 49 dX6_grow_45 (by decide) (fun c45 => ?_) (fun c45 => ?_)
        · skip
          obtain ⟨q, u, hA⟩ : ∃ q u, npM b (tin Q n) (DM b Q n) n (bpc b n) = some (q, u) := by cases hA : npM b (tin Q n) (DM b Q n) n (bpc b n) with | none => rw [hA] at c45; exact absurd rfl c45 | some a => exact ⟨a.1, a.2, rfl⟩
          rw [hA] at h4
          simp only at h4
          have hq64 : q < 64 := by obtain ⟨-, -, i, hi, e⟩ := np_in hA; rw [← e]; exact h64 i hi
          simp only [hA, Option.map, oI]
          refine zJ_aload_n dX6_grow_49 rfl ?_
          refine zJ_aload_n dX6_grow_50 rfl ?_
          refine zJ_iload_n dX6_grow_51 rfl ?_
          refine zJ_iload dX6_grow_52 rfl ?_
          refine zP_ecallVv [_, _, _] _ lv_X6_152 (k_X6_layBack (d := d - 1) (F := F) (D := DM b Q n) (c := cstM b Q n) (mm := mm) hl (by omega) hs hst hsN hn hW1 hR1 y1 y0' DM_FP m1 (fun p v hp hv => (y2 p hp).2 v hv) ⟨hq64, u, (np_in hA).2.1, m3 q u hA⟩) (zSt_ob hs 43 6 rfl) rfl (by omega) (Nat.le_of_ble_eq_true rfl) rfl dX6_grow_54 (fun J2 hz => ?_)
          refine zJ_iinc1 dX6_grow_57 rfl (by decide) ?_
          refine zJ_goto 10 dX6_grow_60 (by decide) ?_
          obtain ⟨z1, z2, z3⟩ := hz
          refine zJ_back (zle_r (zle_r (zle_r (zle_r (zle_n zle_0))))) rfl (ih (k + 1) (by omega) J2 _ ⟨fX_trans h1 (fX_trans (fX_sb hsb) z1), z3, fun x hx => ?_, h4⟩)
          rw [z2, cst_lay hW.1 hn hx (fun p hp => by cases hp; exact hq64)]
          rcases y0' x hx with z | z
          · exact Or.inl z.1
          · exact Or.inr z
        · skip
          refine zJ_vret rfl dX6_grow_48 ?_
          have hA : npM b (tin Q n) (DM b Q n) n (bpc b n) = none := by
            cases hA : npM b (tin Q n) (DM b Q n) n (bpc b n) with
            | none => rfl
            | some a =>
              rw [hA] at c45
              exact absurd c45 (nI_ne1 (by
                obtain ⟨-, -, i, hi, e⟩ := np_in (q := a.1) (u := a.2) hA
                have := h64 i hi
                show a.1 < _
                omega))
          rw [hA] at h4
          exact ⟨rfl, J1, rfl, fX_trans h1 (fX_sb hsb), by rw [← h4]; exact hR1⟩
  refine zJ_aload_n dX6_grow_0 rfl ?_
  refine zP_getr lf_X6_22 (zSt_ob hs 43 6 rfl) rfl (zSt_rf hs 43 5 47 rfl) dX6_grow_1 ?_
  refine zJ_iconst (v := nI 0) dX6_grow_4 rfl ?_
  refine zP_callSv [_, _] _ ls_X6_139 (k_fill (d := d - 1) hl (by omega) (zSt_ar hs 47 64 rfl) (by omega)) rfl (by omega) (Nat.le_of_ble_eq_true rfl) rfl dX6_grow_5 ?_
  refine zJ_iconst (v := nI 0) dX6_grow_8 rfl ?_
  refine zJ_istore_m 3 dX6_grow_9 rfl (Nat.le_of_ble_eq_true rfl) (by decide) ?_
  refine loop 4 0 (by omega) _ R ⟨fX_up fX_rfl (by omega), zRow_of hR (fun a q1 q2 => va_up_row (by omega)), fun q hq => ?_, hV⟩
  rw [va_up_same]
  left
  simp [fillR, hq, nI0]
end ZGrow2
