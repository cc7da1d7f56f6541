/-! ===== class and reference side by side ===== -/
section ZPair
variable {l : Launch} {Xi : zXi} {d : Nat} {I : zI} {g : zG}
theorem rI_fC {J : zI} {S : sT} (h : rI I S) (hf : fC I J) : rI J S := by
  obtain ⟨h1, h2, h3, h4, h5, h6, h7, h8, h9, h10⟩ := h
  have e : ∀ a, 74 ≤ a → a ≤ 642 → J a = I a := hf
  have f : ∀ k, J 74 k = I 74 k := fun k => by rw [e 74 (by decide) (by decide)]
  have hb := h3.1
  refine ⟨?_, by rw [f 3]; exact h2, rB_of h3 (f 20) (fun a ha => e a (by omega) (by omega)), rRow_of h4 (e 533 (by decide) (by decide)), ?_, ?_, ?_, by rw [f 37]; exact h8, by rw [e 76 (by decide) (by decide)]; exact h9, by rw [e 76 (by decide) (by decide)]; exact h10⟩
  · unfold rTp at *
    rw [f 1, e 75 (by decide) (by decide)]; exact h1
  · refine ⟨by rw [f 35]; exact h5.1, h5.2.1, fun i hi => ?_⟩
    have := h5.2.1
    rw [e (432 + 1 + i) (by omega) (by omega)]; exact h5.2.2 i hi
  · refine ⟨by rw [f 36]; exact h6.1, h6.2.1, fun i hi => ?_⟩
    have := h6.2.1
    exact rRow_of (h6.2.2 i hi) (e _ (by omega) (by omega))
  · refine ⟨by rw [f 38]; exact h7.1, h7.2.1, fun k hk => ?_⟩
    have := h7.2.1
    unfold kR
    rw [e (553 + 1 + k) (by omega) (by omega)]; exact h7.2.2 k hk
theorem cI_rO {J : zI} {S : sT} (h : cI I g S) (hf : rO I J) : cI J g S := by
  obtain ⟨h1, h2, h3, h4, h5, h6, h7⟩ := h
  have e : ∀ a, (a < 74 ∨ 641 < a) → J a = I a := hf
  exact ⟨tp_of h1 (e 1 (by decide)) (e 2 (by decide)), by rw [e 1 (by decide)]; exact h2, zWi_of h3 (fun a ha => e a (by omega)), zRow_of h4 (fun a q1 q2 => e a (by omega)), zBk_of h5 (fun a q1 q2 => e a (by omega)), shI_of h6 (fun q hq => e q (by omega)), by rw [e 0 (by decide)]; exact h7⟩
/-- the long laid into `out` -/
def glo (g : zG) (v : Int32) : zG := (g.1, g.2.1, g.2.2.1, va_up g.2.2.2 642 (vp_updL (g.2.2.2 642) 0 v.toInt64))
theorem glo_lo {g' : zG} {J : zI} {v : Int32} : hlo (J, g') v = (J, glo g' v) := rfl
theorem zSt_lo {v : Int32} (h : zSt g) : zSt (glo g v) := h
theorem zLo_lo {v : Int32} (h : zLo g) : zLo (glo g v) := h
theorem cI_lo {v : Int32} {S : sT} (h : cI I g S) : cI I (glo g v) S := h
theorem zLo_gE {g' : zG} (h : zLo g) (hg : gE g g') : zLo g' := ⟨Nat.lt_of_lt_of_le h.1 hg.1, (hg.2.2.1 642 h.1).trans h.2⟩
/-- behind n calls class and reference hold S -/
def lvI (n : Nat) (h : zH) (S : sT) : Prop := zSt h.2 ∧ zLo h.2 ∧ cI h.1 h.2 S ∧ rI h.1 S ∧ okS S ∧ 643 ≤ h.2.1 ∧ h.2.1 ≤ 643 + 6 * n
/-- a wrapped call and the reference's call: how they end -/
def lvR (l : Launch) (Xi : zXi) (n : Nat) (M' : zM) (asr : List Value) (r : zR) (h1 : zH) : Prop := ∃ (code v : Int32), r = .inl (some (.int code)) ∧ (zLo h1.2 ∧ zSt h1.2 ∧ (code = nI 0 → h1.2.2.2.2 642 0 = v.toInt64)) ∧ zC l Xi M' 50 0 0 asr h1 (fun r2 h2 => ∃ b : Int32, r2 = .inl (some (.int b)) ∧ (code = nI 0 → b = v) ∧ h2.2 = h1.2 ∧ h2.1 74 0 = code ∧ ∃ S1, lvI (n + 1) h2 S1)
def lvP (l : Launch) (Xi : zXi) (n : Nat) (M M' : zM) (as2 asr : List Value) (h : zH) : Prop := ∃ kc ks, kc ≤ 7 ∧ ks ≤ 600 ∧ zC l Xi M 51 kc ks as2 h (lvR l Xi n M' asr)
/-- a plain call and the reference's call -/
def lvE (l : Launch) (Xi : zXi) (n : Nat) (M' : zM) (asr : List Value) (r : zR) (h1 : zH) : Prop := ∃ v : Int32, r = .inl (some (.int v)) ∧ zSt h1.2 ∧ zC l Xi M' 50 0 0 asr h1 (fun r2 h2 => r2 = .inl (some (.int v)) ∧ ∃ S1, lvI (n + 1) h2 S1)
def lvD (l : Launch) (Xi : zXi) (n : Nat) (M M' : zM) (as1 asr : List Value) (h : zH) : Prop := ∃ kc ks, kc ≤ 7 ∧ ks ≤ 600 ∧ zC l Xi M 50 kc ks as1 h (lvE l Xi n M' asr)
/-- what a wrapper does with its call -/
def lvW (l : Launch) (Xi : zXi) (MX ML : zM) (as1 as2 : List Value) (I : zI) (g : zG) (cd : Bool → Nat) (ok : Bool → Prop) : Prop := ∀ (kc ks : Nat) (post1 post : zR → zH → Prop), zC l Xi MX 50 kc ks as1 (I, g) post1 → (∀ E h1, post1 (.inr E) h1 → g.1 ≤ h1.2.1 → ∃ k, ok k ∧ E = nmR k ∧ post (.inl (some (.int (nI (cd k))))) h1) → (∀ r h1, post1 (.inl r) h1 → g.1 ≤ h1.2.1 → ∃ v, r = some (.int v) ∧ h1.2.2.1 642 = .inr (1, 1) ∧ post (.inl (some (.int (nI 0)))) (hlo h1 v)) → zC l Xi ML 51 kc ks as2 (I, g) post
theorem lvP_s {n kc ks : Nat} {MX ML M' : zM} {as1 as2 asr : List Value} {cd : Bool → Nat} {ok : Bool → Prop} {S : sT} {Q : Int32 → zI → zG → Prop} (hh : lvI n (I, g) S) (hw : lvW l Xi MX ML as1 as2 I g cd ok) (hkc : kc ≤ 7) (hks : ks ≤ 600) (hk : zC l Xi MX 50 kc ks as1 (I, g) (fun r h' => ∃ v J g', r = .inl (some (.int v)) ∧ h' = (J, g') ∧ gE g g' ∧ fC I J ∧ Q v J g'))
    (hm : ∀ v J g' g2, Q v J g' → rI J S → zSt g2 → zEi l Xi M' 50 asr J g2 (fun b K => b = v ∧ K 74 0 = nI 0 ∧ rO J K ∧ ∃ S1, cI K g' S1 ∧ rI K S1 ∧ okS S1)) : lvP l Xi n ML M' as2 asr (I, g) := by
  obtain ⟨h1, h2, h3, h4, h5, h6, h7⟩ := hh
  refine ⟨kc, ks, hkc, hks, hw kc ks _ _ hk (fun E h1 q hn => ?_) (fun r h1 q hn => ?_)⟩
  · obtain ⟨v, J, g', q1, -⟩ := q
    cases q1
  · obtain ⟨v, J, g', q1, rfl, q3, q4, q5⟩ := q
    cases q1
    have hs' := zSt_gE h1 q3
    have hl' := zLo_gE h2 q3
    refine ⟨v, rfl, hl'.2, ?_⟩
    rw [glo_lo]
    refine ⟨nI 0, v, rfl, ⟨zLo_lo hl', zSt_lo hs', fun _ => ?_⟩, ?_⟩
    · show va_up g'.2.2.2 642 (vp_updL (g'.2.2.2 642) 0 v.toInt64) 642 0 = v.toInt64
      simp [va_up, vp_updL]
    · refine zC_imp (hm v J g' (glo g' v) q5 (rI_fC h4 q4) (zSt_lo hs')) (fun r2 h2 z => ?_)
      obtain ⟨b, K, z1, rfl, z3, z4, z5, S1, z6, z7, z8⟩ := z
      have e1 := q3.1
      have e2 := q3.2.1
      have e6 : 643 ≤ g.1 := h6
      have e7 : g.1 ≤ 643 + 6 * n := h7
      exact ⟨b, z1, fun _ => z3, rfl, z4, S1, zSt_lo hs', zLo_lo hl', cI_lo z6, z7, z8, by show 643 ≤ g'.1; omega, by show g'.1 ≤ 643 + 6 * (n + 1); omega⟩
theorem lvP_q {n : Nat} {MX ML M' : zM} {as1 as2 asr : List Value} {cd : Bool → Nat} {ok : Bool → Prop} {S : sT} {sp : Int32} (hh : lvI n (I, g) S) (hw : lvW l Xi MX ML as1 as2 I g cd ok) (hk : zEi l Xi MX 50 as1 I g (fun v J => v = sp ∧ cI J g S ∧ fC I J))
    (hm : ∀ J g2, rI J S → zSt g2 → zEi l Xi M' 50 asr J g2 (fun v K => v = sp ∧ K 74 0 = nI 0 ∧ rQ J K)) : lvP l Xi n ML M' as2 asr (I, g) := by
  refine lvP_s (kc := 0) (ks := 0) (Q := fun v J g' => v = sp ∧ cI J g' S) hh hw (by omega) (by omega) (zC_imp hk (fun r h' z => ?_)) (fun v J g' g2 q hr hs => ?_)
  · obtain ⟨v, J, z1, z2, z3, z4, z5⟩ := z
    exact ⟨v, J, g, z1, z2, gE_rfl, z5, z3, z4⟩
  · refine zC_imp (hm J g2 hr hs) (fun r h' z => ?_)
    obtain ⟨b, K, z1, z2, z3, z4, z5⟩ := z
    exact ⟨b, K, z1, z2, z3.trans q.1.symm, z4, rO_rQ z5, S, cI_rO q.2 (rO_rQ z5), rI_rQ hr z5, hh.2.2.2.2.1⟩
theorem okS_rf {S : sT} {k : Bool} (h : okS S) : okS (rfU S k) := h
theorem cI_cu {S : sT} {k : Bool} (h : cI I g S) : cI (cuR k I) g (rfU S k) ∧ fC I (cuR k I) := by
  have e : ∀ a, a ≠ 0 → cuR k I a = I a := fun a ha => by
    cases k
    · exact zup_row (by omega)
    · exact zup_row (by omega)
  obtain ⟨h1, h2, h3, h4, h5, h6, h7, h8, h9⟩ := h
  refine ⟨⟨tp_of h1 (e 1 (by decide)) (e 2 (by decide)), by rw [e 1 (by decide)]; exact h2, zWi_of h3 (fun a ha => e a (by omega)), zRow_of h4 (fun a q1 q2 => e a (by omega)), zBk_of h5 (fun a q1 q2 => e a (by omega)), shI_of h6 (fun q hq => e q (by omega)), ?_, ?_, ?_⟩, fun a q1 q2 => e a (by omega)⟩
  · cases k
    · show zup I 0 17 (I 0 17 + 1) 0 15 = _
      rw [zup_same, upd_ne (by decide)]; exact h7
    · show zup I 0 16 (I 0 16 + 1) 0 15 = _
      rw [zup_same, upd_ne (by decide)]; exact h7
  · cases k
    · show zup I 0 17 (I 0 17 + 1) 0 16 = _
      rw [zup_same, upd_ne (by decide)]; exact h8
    · show zup I 0 16 (I 0 16 + 1) 0 16 = _
      rw [zup_same, upd_at, h8]; rfl
  · cases k
    · show zup I 0 17 (I 0 17 + 1) 0 17 = _
      rw [zup_same, upd_at, h9]; rfl
    · show zup I 0 16 (I 0 16 + 1) 0 17 = _
      rw [zup_same, upd_ne (by decide)]; exact h9
theorem lvP_t {n : Nat} {MX ML M' : zM} {as1 as2 asr : List Value} {cd : Bool → Nat} {ok : Bool → Prop} {S : sT} {k : Bool} (hh : lvI n (I, g) S) (hw : lvW l Xi MX ML as1 as2 I g cd ok) (hok : ok k) (hcd : cd k = 1 ∨ cd k = 2) (ht : zT l Xi MX 50 1 6 as1 I g (nmR k) (cuR k I))
    (hm : ∀ J g2, rI J S → zSt g2 → zEi l Xi M' 50 asr J g2 (fun _ K => K 74 0 = nI (cd k) ∧ rI K (rfU S k) ∧ rQ2 J K)) : lvP l Xi n ML M' as2 asr (I, g) := by
  obtain ⟨h1, h2, h3, h4, h5, h6, h7⟩ := hh
  refine ⟨1, 6, by omega, by omega, hw 1 6 _ _ ht (fun E h1 q hn => ?_) (fun r h1 q hn => ?_)⟩
  · obtain ⟨q1, rfl⟩ := q
    cases q1
    have hc := cI_cu (k := k) h3
    have n0 : nI (cd k) ≠ nI 0 := by
      rcases hcd with z | z
      · rw [z]; decide
      · rw [z]; decide
    refine ⟨k, hok, rfl, nI (cd k), 0, rfl, ⟨h2, h1, fun z => absurd z n0⟩, ?_⟩
    refine zC_imp (hm (cuR k I) g (rI_fC h4 hc.2) h1) (fun r2 h2' z => ?_)
    obtain ⟨b, K, z1, rfl, z3, z4, z5⟩ := z
    have e7 : g.1 ≤ 643 + 6 * n := h7
    exact ⟨b, z1, fun z => absurd z n0, rfl, z3, rfU S k, h1, h2, cI_rO hc.1 (rO_rQ2 z5), z4, okS_rf h5, h6, by show g.1 ≤ 643 + 6 * (n + 1); omega⟩
  · obtain ⟨q1, -⟩ := q
    cases q1
theorem lvD_s {n kc ks : Nat} {MX M' : zM} {as1 asr : List Value} {S : sT} {Q : Int32 → zI → zG → Prop} (hh : lvI n (I, g) S) (hkc : kc ≤ 7) (hks : ks ≤ 600) (hk : zC l Xi MX 50 kc ks as1 (I, g) (fun r h' => ∃ v J g', r = .inl (some (.int v)) ∧ h' = (J, g') ∧ gE g g' ∧ fC I J ∧ Q v J g'))
    (hm : ∀ v J g', Q v J g' → rI J S → zSt g' → zEi l Xi M' 50 asr J g' (fun b K => b = v ∧ rO J K ∧ ∃ S1, cI K g' S1 ∧ rI K S1 ∧ okS S1)) : lvD l Xi n MX M' as1 asr (I, g) := by
  obtain ⟨h1, h2, h3, h4, h5, h6, h7⟩ := hh
  refine ⟨kc, ks, hkc, hks, zC_imp hk (fun r h' z => ?_)⟩
  obtain ⟨v, J, g', z1, rfl, q3, q4, q5⟩ := z
  have hs' := zSt_gE h1 q3
  have hl' := zLo_gE h2 q3
  refine ⟨v, z1, hs', zC_imp (hm v J g' q5 (rI_fC h4 q4) hs') (fun r2 h2' z => ?_)⟩
  obtain ⟨b, K, y1, rfl, rfl, z4, S1, z6, z7, z8⟩ := z
  have e1 := q3.1
  have e2 := q3.2.1
  have e6 : 643 ≤ g.1 := h6
  have e7 : g.1 ≤ 643 + 6 * n := h7
  exact ⟨y1, S1, hs', hl', z6, z7, z8, by show 643 ≤ g'.1; omega, by show g'.1 ≤ 643 + 6 * (n + 1); omega⟩
theorem lvD_q {n : Nat} {MX M' : zM} {as1 asr : List Value} {S : sT} {sp : Int32} (hh : lvI n (I, g) S) (hk : zEi l Xi MX 50 as1 I g (fun v J => v = sp ∧ cI J g S ∧ fC I J))
    (hm : ∀ J g2, rI J S → zSt g2 → zEi l Xi M' 50 asr J g2 (fun v K => v = sp ∧ K 74 0 = nI 0 ∧ rQ J K)) : lvD l Xi n MX M' as1 asr (I, g) := by
  refine lvD_s (kc := 0) (ks := 0) (Q := fun v J g' => v = sp ∧ cI J g' S) hh (by omega) (by omega) (zC_imp hk (fun r h' z => ?_)) (fun v J g' q hr hs => ?_)
  · obtain ⟨v, J, z1, z2, z3, z4, z5⟩ := z
    exact ⟨v, J, g, z1, z2, gE_rfl, z5, z3, z4⟩
  · refine zC_imp (hm J g' hr hs) (fun r h' z => ?_)
    obtain ⟨b, K, z1, z2, z3, z4, z5⟩ := z
    exact ⟨b, K, z1, z2, z3.trans q.1.symm, rO_rQ z5, S, cI_rO q.2 (rO_rQ z5), rI_rQ hr z5, hh.2.2.2.2.1⟩
/-! which calls are refused: alike -/
theorem rT_none : ∀ {cs : List (Bool × Bool)}, rT cs = none → ∀ q ∈ cs, q.1 = true
  | [], _, q, hq => by cases hq
  | (c, b) :: cs, h, q, hq => by
    cases c
    · cases h
    · rcases List.mem_cons.mp hq with rfl | hq
      · rfl
      · exact rT_none (cs := cs) h q hq
theorem rT_kind {b k : Bool} : ∀ {cs : List (Bool × Bool)}, (∀ q ∈ cs, q.2 = b) → rT cs = some k → k = b
  | [], _, h => by cases h
  | (c, b') :: cs, hb, h => by
    rcases rT_cons h with ⟨-, z⟩ | ⟨-, z⟩
    · rw [z]; exact hb (c, b') List.mem_cons_self
    · exact rT_kind (fun q hq => hb q (List.mem_cons_of_mem _ hq)) z
theorem rT_and {a b k : Bool} {cs : List (Bool × Bool)} : rT ((a, k) :: (b, k) :: cs) = rT ((a && b, k) :: cs) := by cases a <;> cases b <;> rfl
theorem eNet {S : sT} (hI : cI I g S) {x : Int32} : nNet I x = qNet S.2.1 x := by unfold nNet qNet; rw [hI.2.2.1.2.1.2.2.1]
theorem eRow {S : sT} (hI : cI I g S) {x : Int32} : nRow I x = qRow S.2.1 x := by unfold nRow qRow; rw [hI.2.2.1.2.1.2.1]
theorem ePl {S : sT} (hI : cI I g S) {x y : Int32} : nPlace I x y = qPl S.2.1 x y := by unfold nPlace qPl; rw [hI.2.2.1.2.1.1, hI.2.2.1.2.1.2.1]
theorem eWh {x y : Int32} : nWhat x y = nRange x (nI 0) y := rfl
theorem eLen {S : sT} (hI : cI I g S) {x y : Int32} : nLength I x y = (decide (¬ x < nI 0 ∧ x ≤ nI S.1.1) && decide (x ≤ y)) := by
  unfold nLength
  rw [hI.1.1]
  by_cases z1 : x < nI 0
  · rw [decide_eq_false (fun h => h.1 z1), decide_eq_false (fun h => h.1 z1)]; rfl
  · by_cases z2 : x ≤ y
    · by_cases z3 : x ≤ nI S.1.1
      · rw [decide_eq_true (⟨z1, Int32.not_lt.mpr z2, z3⟩ : ¬ x < 0 ∧ ¬ y < x ∧ x ≤ nI S.1.1), decide_eq_true (⟨z1, z3⟩ : ¬ x < nI 0 ∧ x ≤ nI S.1.1), decide_eq_true z2]; rfl
      · rw [decide_eq_false (fun h => z3 h.2.2), decide_eq_false (fun h => z3 h.2)]; rfl
    · rw [decide_eq_false (fun h => h.2.1 (Int32.not_le.mp z2)), decide_eq_false z2, Bool.and_false]
theorem gRng {x : Int32} {lo hi : Nat} (hlo : lo < 1000) (hhi : hi < 100000) (h : nRange x (nI lo) (nI hi) = true) : ∃ n, x = nI n ∧ lo ≤ n ∧ n ≤ hi := by
  obtain ⟨h1, h2⟩ := of_decide_eq_true h
  have h3 : (0 : Int32) ≤ x := Int32.le_trans ((nI_leI (a := 0) (b := lo) (by omega) (by omega)).mpr (Nat.zero_le _)) (Int32.not_lt.mp h1)
  obtain ⟨e, hb⟩ := nI_of_nn h3
  refine ⟨x.toNatClampNeg, e, ?_, ?_⟩
  · rw [e] at h1
    exact (nI_leI (by omega) hb).mp (Int32.not_lt.mp h1)
  · rw [e] at h2
    exact (nI_leI hb (by omega)).mp h2
theorem gLt {x : Int32} {N : Nat} (hN : N < 1000) (h1 : ¬ x < 0) (h2 : x < nI N) : ∃ n, x = nI n ∧ n < N := by
  obtain ⟨e, hb⟩ := nI_of_nn (Int32.not_lt.mp h1)
  refine ⟨x.toNatClampNeg, e, ?_⟩
  rw [e] at h2
  exact Nat.lt_of_not_le (fun z => nI_nlt z hb h2)
theorem gNet {S : sT} (hI : cI I g S) {x : Int32} (h : qNet S.2.1 x = true) : ∃ n, x = nI n ∧ n < bN S.2.1 := by
  obtain ⟨h1, h2⟩ := of_decide_eq_true h
  have := hI.2.2.1.1.2.2.2.2.1
  exact gLt (by omega) h1 h2
theorem gRow {S : sT} (hI : cI I g S) {x : Int32} (h : qRow S.2.1 x = true) : ∃ n, x = nI n ∧ n < bR S.2.1 := by
  obtain ⟨h1, h2⟩ := of_decide_eq_true h
  have := hI.2.2.1.1.2.2.2.1
  exact gLt (by omega) h1 h2
theorem gPl {S : sT} (hI : cI I g S) {x y : Int32} (h : qPl S.2.1 x y = true) : ∃ m n, x = nI m ∧ y = nI n ∧ m < bC S.2.1 ∧ n < bR S.2.1 := by
  obtain ⟨h1, h2, h3, h4⟩ := of_decide_eq_true h
  have := hI.2.2.1.1.2.2.2.1
  have := hI.2.2.1.1.2.1
  obtain ⟨m, e1, hm⟩ := gLt (N := bC S.2.1) (by omega) h1 (Int32.not_le.mp h2)
  obtain ⟨n, e2, hn⟩ := gLt (N := bR S.2.1) (by omega) h3 h4
  exact ⟨m, n, e1, e2, hm, hn⟩
theorem gLen {S : sT} (hI : cI I g S) {x : Int32} {mo : Nat} (hmo : mo ≤ 600) (h : (decide (¬ x < nI 0 ∧ x ≤ nI S.1.1) && decide (x ≤ nI mo)) = true) : ∃ n, x = nI n ∧ n ≤ S.1.1 ∧ n ≤ mo := by
  obtain ⟨h1, h2⟩ := (Bool.and_eq_true _ _).mp h
  obtain ⟨h1, h3⟩ := of_decide_eq_true h1
  have h4 := of_decide_eq_true h2
  have := hI.1.2.1
  obtain ⟨e, hb⟩ := nI_of_nn (Int32.not_lt.mp h1)
  rw [e] at h3 h4
  exact ⟨x.toNatClampNeg, e, (nI_leI hb (by omega)).mp h3, (nI_leI hb (by omega)).mp h4⟩
end ZPair
