/-! ===== all deeds leave rows that stand ===== -/
section ZOk2
variable {b : zWo} {R : Nat → Int32} {n : Nat}
theorem okT_congr {R' : Nat → Int32} {m : Nat} (hb : bdOk b) (h : okT b R m) (e : ∀ p, p < 64 → R' (m * 64 + p) = R (m * 64 + p)) : okT b R' m := by
  obtain ⟨dep, hd⟩ := h
  refine ⟨dep, fun p hp ht => ?_⟩
  rw [tin_congr (e p hp)] at ht
  obtain ⟨h1, h2⟩ := hd p hp ht
  refine ⟨h1, ?_⟩
  rw [e p hp]
  rcases h2 with h2 | ⟨h3, v, q, hv, h4, h5, h6, h7⟩
  · exact Or.inl h2
  · exact Or.inr ⟨h3, v, q, hv, h4, h5, by rw [tin_congr (e q (nbr_lt hb hp h5))]; exact h6, h7⟩
/-- a deed on one net alone -/
theorem okR_net {R' : Nat → Int32} (hb : bdOk b) (h : okR b R) (hn : n < 6) (hT : okT b R' n) (hz : ∀ p, p < 64 → (bN b ≤ n ∨ bpc b n = 0) → tin R' n p = false) (e : ∀ j, (j < n * 64 ∨ n * 64 + 64 ≤ j) → R' j = R j) : okR b R' := by
  obtain ⟨h1, h2, h3, h4⟩ := h
  refine ⟨fun m hm => ?_, fun m p hm hp hz2 => ?_, fun p hp => by rw [e _ (by omega)]; exact h3 p hp, fun p hp => by rw [e _ (by omega)]; exact h4 p hp⟩
  · by_cases z : m = n
    · rw [z]; exact hT
    · exact okT_congr hb (h1 m hm) (fun p hp => e _ (by omega))
  · by_cases z : m = n
    · rw [z] at hz2 ⊢; exact hz p hp hz2
    · rw [tin_congr (e (m * 64 + p) (by omega))]; exact h2 m p hm hp hz2
/-- a deed that leaves the trees -/
theorem okR_rest {R' : Nat → Int32} (hb : bdOk b) (h : okR b R) (e : ∀ j, j < 384 → R' j = R j) (hw : ∀ p, p < 64 → R' (448 + p) = 0 ∨ R' (448 + p) = 1) (hh : ∀ p, p < 64 → ∃ k, k ≤ 9999 ∧ R' (384 + p) = nI k) : okR b R' :=
  ⟨fun m hm => okT_congr hb (h.1 m hm) (fun p hp => e _ (by omega)), fun m p hm hp hz => by rw [tin_congr (e (m * 64 + p) (by omega))]; exact h.2.1 m p hm hp hz, hw, hh⟩
theorem rip_tin {p : Nat} (hp : p < 64) : tin (ripM R n) n p = false := by
  unfold tin ripM
  rw [if_pos (by omega)]
  rfl
theorem rip_out {j : Nat} (hj : j < n * 64 ∨ n * 64 + 64 ≤ j) : ripM R n j = R j := by
  unfold ripM
  rw [if_neg (by omega)]
theorem okR_rip (hb : bdOk b) (h : okR b R) (hn : n < 6) : okR b (ripM R n) :=
  okR_net hb h hn ⟨fun _ => 0, fun p hp ht => by rw [rip_tin hp] at ht; cases ht⟩ (fun p hp _ => rip_tin hp) (fun j hj => rip_out hj)
theorem seed_T (hb : bdOk b) (hn : n < 6) (hpc : 0 < bpc b n) : okT b (upd (ripM R n) (n * 64 + bpn b n 0) 4) n ∧ tin (upd (ripM R n) (n * 64 + bpn b n 0) 4) n (bpn b n 0) = true := by
  obtain ⟨hr, hi⟩ := hb.2.2.2.2.2.2.1 n 0 hn hpc
  refine ⟨⟨fun _ => 0, fun p hp ht => ?_⟩, ?_⟩
  · rw [tin_upd hn hr hn hp] at ht
    by_cases e : p = bpn b n 0
    · rw [e]; exact ⟨hi, Or.inl ⟨upd_at, rfl⟩⟩
    · rw [if_neg (fun z => e z.2), rip_tin hp] at ht; cases ht
  · rw [tin_upd hn hr hn hr, if_pos ⟨rfl, rfl⟩]; decide
theorem okR_layA (hb : bdOk b) (h : okR b R) (hn : n < 6) (hnN : n < bN b) (hpc : 0 < bpc b n) : okR b (layA b R n) := by
  obtain ⟨hr, hi⟩ := hb.2.2.2.2.2.2.1 n 0 hn hpc
  obtain ⟨h1, h2⟩ := seed_T (R := R) hb hn hpc
  obtain ⟨h3, h4, h5⟩ := grow_okT hb hn (k := 4) h1 h2
  refine okR_net hb h hn h3 (fun p hp hz => by omega) (fun j hj => ?_)
  show growM b n 4 _ j = _
  rw [h5 j hj, upd_ne (by omega), rip_out hj]
theorem par_of {dep : Nat → Nat} (hd : depOk b R n dep none) {p : Nat} (hp : p < 64) (ht : tin R n p = true) (hne : p ≠ bpn b n 0) : ∃ v q, v < 4 ∧ R (n * 64 + p) = nI v ∧ nbr b p v = some q ∧ tin R n q = true ∧ dep q < dep p ∧ parM b R n p = some q := by
  obtain ⟨-, h2⟩ := hd p hp ht
  rcases h2 with ⟨-, h2⟩ | ⟨h3, v, q, hv, h4, h5, h6, h7⟩
  · exact absurd h2 hne
  · refine ⟨v, q, hv, h4, h5, (by rcases h6 with h6 | h6; exact h6; cases h6), h7, ?_⟩
    unfold parM
    rw [h4, if_neg (fun z => by
      rcases z with z | z
      · exact nI_ne1 (by omega) z
      · have := (nI_eq (b := 4) (by omega) (by omega)).mp z; omega), nI_clamp (by omega)]
    exact h5
theorem root_way {dep : Nat → Nat} (hd : depOk b R n dep none) {p : Nat} (hp : p < 64) (ht : tin R n p = true) : R (n * 64 + p) = 4 ↔ p = bpn b n 0 := by
  obtain ⟨-, h2⟩ := hd p hp ht
  rcases h2 with ⟨h1, h2⟩ | ⟨h3, v, q, hv, h4, -⟩
  · exact ⟨fun _ => h2, fun _ => h1⟩
  · exact ⟨fun z => by rw [h4] at z; have := (nI_eq (b := 4) (by omega) (by omega)).mp z; omega, fun z => absurd z h3⟩
/-- the way to the root: how much fuel does not matter once there is enough -/
theorem clr_fuel (hb : bdOk b) {dep : Nat → Nat} (hd : depOk b R n dep none) : ∀ {m p k k' : Nat}, dep p ≤ m → p < 64 → tin R n p = true → dep p < k → dep p < k' → clrM b R n k (some p) = clrM b R n k' (some p) := by
  intro m
  induction m with
  | zero =>
    intro p k k' hm hp ht hk hk'
    obtain ⟨k, rfl⟩ : ∃ j, k = j + 1 := ⟨k - 1, by omega⟩
    obtain ⟨k', rfl⟩ : ∃ j, k' = j + 1 := ⟨k' - 1, by omega⟩
    simp only [clrM]
    by_cases e : p = bpn b n 0
    · rw [if_pos e, if_pos e]
    · obtain ⟨v, q, -, -, -, -, h7, -⟩ := par_of hd hp ht e
      omega
  | succ m ih =>
    intro p k k' hm hp ht hk hk'
    obtain ⟨k, rfl⟩ : ∃ j, k = j + 1 := ⟨k - 1, by omega⟩
    obtain ⟨k', rfl⟩ : ∃ j, k' = j + 1 := ⟨k' - 1, by omega⟩
    simp only [clrM]
    by_cases e : p = bpn b n 0
    · rw [if_pos e, if_pos e]
    · obtain ⟨v, q, -, -, h5, h6, h7, h8⟩ := par_of hd hp ht e
      rw [if_neg e, if_neg e, h8, ih (p := q) (k := k) (k' := k') (by omega) (nbr_lt hb hp h5) h6 (by omega) (by omega)]
theorem tea_out {j : Nat} (hr : bpn b n 0 < 64) (hj : j < n * 64 ∨ n * 64 + 64 ≤ j) : teaM b R n j = R j := by
  unfold teaM
  rw [upd_ne (by omega), if_neg (by omega)]
theorem tea_in {p : Nat} (hn : n < 6) (hp : p < 64) (hr : bpn b n 0 < 64) : tin (teaM b R n) n p = kepM b R n p ∧ (p ≠ bpn b n 0 → kepM b R n p = true → teaM b R n (n * 64 + p) = R (n * 64 + p)) := by
  have h : ∀ p, p ≠ bpn b n 0 → p < 64 → teaM b R n (n * 64 + p) = if kepM b R n p = false then -1 else R (n * 64 + p) := fun p e hp => by
    unfold teaM
    rw [upd_ne (by omega)]
    simp only [Nat.add_sub_cancel_left]
    by_cases z : kepM b R n p = false
    · rw [if_pos ⟨by omega, by omega, z⟩, if_pos z]
    · rw [if_neg (fun y => z y.2.2), if_neg z]
  by_cases e : p = bpn b n 0
  · refine ⟨?_, fun z => absurd e z⟩
    subst e
    unfold tin teaM
    rw [upd_at]
    simp [kepM]
  · refine ⟨?_, fun _ z => by rw [h p e hp, z]; rfl⟩
    unfold tin
    rw [h p e hp]
    cases z : kepM b R n p with
    | false => rfl
    | true =>
      simp only [kepM, e, decide_false, Bool.false_or, Bool.and_eq_true] at z
      exact z.1
theorem tea_T (hb : bdOk b) (hn : n < 6) (hpc : 0 < bpc b n) (h : okT b R n) : okT b (teaM b R n) n ∧ tin (teaM b R n) n (bpn b n 0) = true := by
  obtain ⟨hr, hi⟩ := hb.2.2.2.2.2.2.1 n 0 hn hpc
  obtain ⟨dep, hd, hbd⟩ := okT_bd hb h
  refine ⟨⟨dep, fun p hp ht => ?_⟩, by rw [(tea_in hn hr hr).1]; simp [kepM]⟩
  rw [(tea_in hn hp hr).1] at ht
  by_cases e : p = bpn b n 0
  · rw [e]
    exact ⟨hi, Or.inl ⟨by unfold teaM; rw [upd_at], rfl⟩⟩
  · have hk := ht
    simp only [kepM, e, decide_false, Bool.false_or, Bool.and_eq_true] at hk
    obtain ⟨htp, hcl⟩ := hk
    obtain ⟨v, q, hv, h4, h5, h6, h7, h8⟩ := par_of hd hp htp e
    refine ⟨(hd p hp htp).1, Or.inr ⟨e, v, q, hv, ?_, h5, Or.inl ?_, h7⟩⟩
    · rw [(tea_in hn hp hr).2 e ht]; exact h4
    · have hq := nbr_lt hb hp h5
      rw [(tea_in hn hq hr).1]
      have hdp := hbd p hp htp
      rw [show (64 : Nat) = 63 + 1 from rfl] at hcl
      simp only [clrM] at hcl
      rw [if_neg e, h8] at hcl
      by_cases ho : 0 < ovN b R p
      · rw [if_pos ho] at hcl; cases hcl
      · rw [if_neg ho, clr_fuel (k' := 64) hb hd (Nat.le_refl _) hq h6 (by omega) (by omega)] at hcl
        simp [kepM, h6, hcl]
theorem okR_step (hb : bdOk b) (h : okR b R) (hn : n < 6) (hnN : n < bN b) (hpc : 0 < bpc b n) : okR b (growM b n 4 (teaM b R n)) := by
  obtain ⟨hr, hi⟩ := hb.2.2.2.2.2.2.1 n 0 hn hpc
  obtain ⟨h1, h2⟩ := tea_T hb hn hpc (h.1 n hn)
  obtain ⟨h3, h4, h5⟩ := grow_okT hb hn (k := 4) h1 h2
  exact okR_net hb h hn h3 (fun p hp hz => by omega) (fun j hj => by rw [h5 j hj, tea_out hr hj])
theorem okR_rndN (hb : bdOk b) (h : okR b R) : ∀ {k : Nat}, k ≤ bN b → okR b (rndN b R k)
  | 0, _ => h
  | k + 1, hk => by
    have ih := okR_rndN hb h (k := k) (by omega)
    have h6 := hb.2.2.2.2.1
    show okR b (if styM b (rndN b R k) k then rndN b R k else growM b k 4 (teaM b (rndN b R k) k))
    by_cases e : styM b (rndN b R k) k = true
    · rw [if_pos e]; exact ih
    · rw [if_neg e]
      refine okR_step hb ih (by omega) (by omega) (Nat.pos_of_ne_zero (fun z => e ?_))
      simp [styM, z]
theorem his_lt {j : Nat} (hj : j < 384 ∨ 448 ≤ j) : hisM b R j = R j := by
  unfold hisM
  rw [if_neg (by omega)]
theorem min_in {x : Int32} (h0 : 0 ≤ x.toInt) : ∃ k, k ≤ 9999 ∧ (if x < nI 9999 then x else nI 9999) = nI k := by
  by_cases e : x < nI 9999
  · rw [if_pos e]
    have h1 := Int32.lt_iff_toInt_lt.mp e
    rw [nI_toInt (by omega)] at h1
    refine ⟨x.toInt.toNat, by omega, ?_⟩
    apply Int32.toInt_inj.mp
    rw [nI_toInt (by omega)]
    omega
  · rw [if_neg e]; exact ⟨9999, by omega, rfl⟩
def gnOk (b : zWo) : Prop := ∃ k, k ≤ 9 ∧ bgn b = nI k
theorem okR_his (hb : bdOk b) (hg : gnOk b) (h : okR b R) : okR b (hisM b R) := by
  refine okR_rest hb h (fun j hj => his_lt (by omega)) (fun p hp => by rw [his_lt (by omega)]; exact h.2.2.1 p hp) (fun p hp => ?_)
  obtain ⟨k, hk, e⟩ := h.2.2.2 p hp
  obtain ⟨gn, hgn, e2⟩ := hg
  unfold hisM
  rw [if_pos (by omega)]
  simp only [Nat.add_sub_cancel_left]
  apply min_in
  have hu := usn_le (R := R) (p := p)
  have h9 : ovN b R p * gn ≤ 6 * 9 := Nat.mul_le_mul (by unfold ovN; omega) hgn
  rw [e, e2, pk_mul, nI_add, nI_toInt (by omega)]
  omega
theorem okR_rnd (hb : bdOk b) (hg : gnOk b) (h : okR b R) : okR b (rndM b R) := by
  have h1 := okR_his hb hg (okR_rndN hb h (Nat.le_refl _))
  refine okR_rest hb h1 (fun j hj => upd_ne (by omega)) (fun p hp => ?_) (fun p hp => ?_)
  · show upd _ _ _ _ = _ ∨ upd _ _ _ _ = _
    rw [upd_ne (by omega)]; exact h1.2.2.1 p hp
  · show ∃ k, k ≤ 9999 ∧ upd _ _ _ _ = _
    rw [upd_ne (by omega)]; exact h1.2.2.2 p hp
theorem okR_eas (hb : bdOk b) (h : okR b R) {v : Int32} (hv : ∃ k, k ≤ 99 ∧ v = nI k) : okR b (easM R v) := by
  obtain ⟨w, hw, rfl⟩ := hv
  refine okR_rest hb h (fun j hj => by unfold easM; rw [if_neg (by omega)]) (fun p hp => by unfold easM; rw [if_neg (by omega)]; exact h.2.2.1 p hp) (fun p hp => ?_)
  obtain ⟨k, hk, e⟩ := h.2.2.2 p hp
  refine ⟨k - w, by omega, ?_⟩
  unfold easM
  rw [if_pos (by omega), e]
  exact posI (by omega) (by omega)
theorem okR_crit (hb : bdOk b) (h : okR b R) (hn : n < 6) {v : Int32} : okR b (upd R (512 + n) v) :=
  okR_rest hb h (fun j hj => upd_ne (by omega)) (fun p hp => by rw [upd_ne (by omega)]; exact h.2.2.1 p hp) (fun p hp => by rw [upd_ne (by omega)]; exact h.2.2.2 p hp)
theorem okR_wall (hb : bdOk b) (h : okR b R) {p : Nat} (hp : p < 64) : okR b (upd R (448 + p) (nI 1 - R (448 + p))) :=
  okR_rest hb h (fun j hj => upd_ne (by omega)) (fun q hq => by
    by_cases e : q = p
    · rw [e, upd_at]
      rcases h.2.2.1 p hp with z | z
      · rw [z]; right; rfl
      · rw [z]; left; decide
    · rw [upd_ne (by omega)]; exact h.2.2.1 q hq) (fun q hq => by rw [upd_ne (by omega)]; exact h.2.2.2 q hq)
end ZOk2
