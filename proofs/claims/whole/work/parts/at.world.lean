/-! ===== the world at the law's entry ===== -/
section ZWorld
/-- what the Statement gives of the start, one by one -/
def nfl : List Cond := flatC (Jvm.Cond.and given_1 narrow_1)
theorem zu1 {w : Cond} (i : Nat) (h : tables_1_1[i]? = some w) : w ∈ lw_tbl := List.mem_append_right _ (List.mem_append_left _ (List.mem_of_getElem? h))
theorem zu2 {w : Cond} (i : Nat) (h : tables_1_2[i]? = some w) : w ∈ lw_tbl := List.mem_append_right _ (List.mem_append_right _ (List.mem_append_left _ (List.mem_of_getElem? h)))
theorem zu3 {w : Cond} (i : Nat) (h : tables_1_3[i]? = some w) : w ∈ lw_tbl := List.mem_append_right _ (List.mem_append_right _ (List.mem_append_right _ (List.mem_append_left _ (List.mem_of_getElem? h))))
theorem zu4 {w : Cond} (i : Nat) (h : tables_1_4[i]? = some w) : w ∈ lw_tbl := List.mem_append_right _ (List.mem_append_right _ (List.mem_append_right _ (List.mem_append_right _ (List.mem_append_left _ (List.mem_of_getElem? h)))))
theorem zu5 {w : Cond} (i : Nat) (h : tables_1_5[i]? = some w) : w ∈ lw_tbl := List.mem_append_right _ (List.mem_append_right _ (List.mem_append_right _ (List.mem_append_right _ (List.mem_append_right _ (List.mem_append_left _ (List.mem_of_getElem? h))))))
theorem zu6 {w : Cond} (i : Nat) (h : tables_1_6[i]? = some w) : w ∈ lw_tbl := List.mem_append_right _ (List.mem_append_right _ (List.mem_append_right _ (List.mem_append_right _ (List.mem_append_right _ (List.mem_append_right _ (List.mem_append_left _ (List.mem_of_getElem? h)))))))
theorem zu7 {w : Cond} (i : Nat) (h : tables_1_7[i]? = some w) : w ∈ lw_tbl := List.mem_append_right _ (List.mem_append_right _ (List.mem_append_right _ (List.mem_append_right _ (List.mem_append_right _ (List.mem_append_right _ (List.mem_append_right _ (List.mem_append_left _ (List.mem_of_getElem? h))))))))
theorem zu8 {w : Cond} (i : Nat) (h : tables_1_8[i]? = some w) : w ∈ lw_tbl := List.mem_append_right _ (List.mem_append_right _ (List.mem_append_right _ (List.mem_append_right _ (List.mem_append_right _ (List.mem_append_right _ (List.mem_append_right _ (List.mem_append_right _ (List.mem_append_left _ (List.mem_of_getElem? h)))))))))
theorem zu9 {w : Cond} (i : Nat) (h : tables_1_9[i]? = some w) : w ∈ lw_tbl := List.mem_append_right _ (List.mem_append_right _ (List.mem_append_right _ (List.mem_append_right _ (List.mem_append_right _ (List.mem_append_right _ (List.mem_append_right _ (List.mem_append_right _ (List.mem_append_right _ (List.mem_of_getElem? h)))))))))
variable {s : State} {args : Array Value}
theorem zGT_of (hts : ∀ w ∈ lw_tbl, w.before args s = true) : ∀ w ∈ zGT, w.before args s = true := fun w hw => hts w (List.mem_filter.mp hw).1
theorem zK0 (hts : ∀ w ∈ lw_tbl, w.before args s = true) : ∃ (D : va_G) (cT : Nat → ClassId), va_K D vwCl (zty cT) s := by
  have hg := zGT_of hts
  obtain ⟨c0, i0, h0⟩ := u_known (C := RX0) (T := TX0) (N := 12) (n := 12) hg cu_0 (hts _ (zu1 73 rfl))
  obtain ⟨c1, i1, h1⟩ := u_known (C := RX1) (T := TX1) (N := 3) (n := 3) hg cu_1 (hts _ (zu1 205 rfl))
  obtain ⟨c2, i2, h2⟩ := u_known (C := RX2) (T := TX2) (N := 6) (n := 6) hg cu_2 (hts _ (zu2 86 rfl))
  obtain ⟨c3, i3, h3⟩ := u_known (C := RX3) (T := TX3) (N := 2) (n := 2) hg cu_3 (hts _ (zu2 33 rfl))
  obtain ⟨c4, i4, h4⟩ := u_known (C := RX4) (T := TX4) (N := 3) (n := 3) hg cu_4 (hts _ (zu2 68 rfl))
  obtain ⟨c5, i5, h5⟩ := u_known (C := RX5) (T := TX5) (N := 4) (n := 4) hg cu_5 (hts _ (zu1 175 rfl))
  obtain ⟨c6, i6, h6⟩ := u_known (C := RX6) (T := TX6) (N := 7) (n := 7) hg cu_6 (hts _ (zu2 27 rfl))
  obtain ⟨c7, i7, h7⟩ := u_known (C := RX7) (T := TX7) (N := 6) (n := 6) hg cu_7 (hts _ (zu2 112 rfl))
  obtain ⟨c8, i8, h8⟩ := u_known (C := RX8) (T := TX8) (N := 6) (n := 6) hg cu_8 (hts _ (zu2 141 rfl))
  obtain ⟨c9, i9, h9⟩ := u_known (C := RX9) (T := TX9) (N := 2) (n := 2) hg cu_9 (hts _ (zu2 14 rfl))
  obtain ⟨c10, i10, h10⟩ := u_known (C := RX10) (T := TX10) (N := 7) (n := 7) hg cu_10 (hts _ (zu1 37 rfl))
  obtain ⟨c11, i11, h11⟩ := u_known (C := RX11) (T := TX11) (N := 8) (n := 8) hg cu_11 (hts _ (zu1 222 rfl))
  obtain ⟨c12, i12, h12⟩ := u_known (C := RX12) (T := TX12) (N := 19) (n := 19) hg cu_12 (hts _ (zu1 29 rfl))
  obtain ⟨c13, i13, h13⟩ := u_known (C := RX13) (T := TX13) (N := 48) (n := 48) hg cu_13 (hts _ (zu6 167 rfl))
  obtain ⟨a0, k0, p0, x0, y0, z0⟩ := Cond.arrayClass_spec (hts _ (zu1 71 rfl))
  obtain ⟨a1, k1, p1, x1, y1, z1⟩ := Cond.arrayClass_spec (hts _ (zu9 99 rfl))
  obtain ⟨a4, k4, p4, x4, y4, z4⟩ := Cond.arrayClass_spec (hts _ (zu7 110 rfl))
  obtain ⟨p2, a2, k2, w2, -, x2, y2, z2⟩ := Cond.arrayOver_spec (hts _ (zu2 118 rfl))
  obtain ⟨p3, a3, k3, w3, -, x3, y3, z3⟩ := arrayOver_specB (hts _ (zu6 173 rfl))
  refine ⟨(fun k => [c0, c1, c2, c3, c4, c5, c6, c7, c8, c9, c10, c11, c12, c13].getD k c0, fun k => [i0, i1, i2, i3, i4, i5, i6, i7, i8, i9, i10, i11, i12, i13].getD k i0), fun k => [a0, a1, a2, a3, a4].getD k a0, fun c q hq => ?_, fun k q hq => ?_⟩
  · match c, hq with
    | 0, hq => cases hq; exact h0
    | 1, hq => cases hq; exact h1
    | 2, hq => cases hq; exact h2
    | 3, hq => cases hq; exact h3
    | 4, hq => cases hq; exact h4
    | 5, hq => cases hq; exact h5
    | 6, hq => cases hq; exact h6
    | 7, hq => cases hq; exact h7
    | 8, hq => cases hq; exact h8
    | 9, hq => cases hq; exact h9
    | 10, hq => cases hq; exact h10
    | 11, hq => cases hq; exact h11
    | 12, hq => cases hq; exact h12
    | 13, hq => cases hq; exact h13
    | c + 14, hq => simp [vwCl] at hq
  · match k, hq with
    | 0, hq => cases hq; exact ⟨fun N z => ⟨(fun k h => by cases h), k0, y0, p0, z0⟩, x0⟩
    | 1, hq => cases hq; exact ⟨fun N z => ⟨(fun k h => by cases h), k1, y1, p1, z1⟩, x1⟩
    | 2, hq => cases hq; exact ⟨fun N z => ⟨(fun k h => by cases h), k2, x2, p2, y2⟩, k2, p2, x2, y2, w2, z2⟩
    | 3, hq => cases hq; exact ⟨fun N z => ⟨(fun k h => by cases h), k3, x3, p3, y3⟩, z3⟩
    | 4, hq => cases hq; exact ⟨fun N z => ⟨(fun k h => by cases h), k4, y4, p4, z4⟩, x4⟩
    | k + 5, hq => simp [zty] at hq
def zsw : List (String × Nat) := [(RX0, 83), (RX0, 89), (RX0, 91), (RX0, 93), (RX0, 95), (RX0, 97), (RX5, 104), (RX5, 106), (RX5, 108), (RX5, 110), (RX5, 114), (RX5, 116), (RX5, 118), (RX5, 88), (RX5, 98), (RX11, 100), (RX11, 61), (RX11, 77), (RX11, 88), (RX11, 92)]
def zst (i : Nat) : Term := .string (zsw.getD i (RX0, 0)).1 (zsw.getD i (RX0, 0)).2
def zlen : List Nat := zbyt.map List.length
def zsx : List Nat := [87, 95, 103, 111, 118, 125, 150, 158, 166, 174, 192, 199, 206, 133, 142, 265, 214, 233, 240, 256]
theorem nf_ex : ∀ i, i < 20 → nfl[zsx.getD i 0]? = some (.exactly (zst i) "java/lang/String") := by decide +kernel
theorem nf_co : ∀ i, i < 20 → nfl[zsx.getD i 0 + 1]? = some (.eq (.field (zst i) "java/lang/String" "coder" "B") (.int 0)) := by decide +kernel
theorem nf_ar : ∀ i, i < 20 → nfl[zsx.getD i 0 + 2]? = some (.arrayOf (.field (zst i) "java/lang/String" "value" "[B") .byte) := by decide +kernel
theorem nf_le : ∀ i, i < 20 → nfl[zsx.getD i 0 + 3]? = some (.eq (.length (.field (zst i) "java/lang/String" "value" "[B")) (.int (Int32.ofNat (zlen.getD i 0)))) := by decide +kernel
theorem nf_el : ∀ i, i < 20 → ∀ j, j < zlen.getD i 0 → nfl[zsx.getD i 0 + 4 + j]? = some (.eq (.elem (.field (zst i) "java/lang/String" "value" "[B") (.int (Int32.ofNat j))) (.int ((zbyt.getD i []).getD j 0))) := by decide +kernel
theorem nf_N : ∀ i, i < 20 → zlen.getD i 0 < 2 ^ 31 := by decide +kernel
theorem nf_inj : ∀ i, i < 20 → ∀ j, j < 20 → zlen.getD i 0 = zlen.getD j 0 → (∀ k, k < zlen.getD i 0 → (zbyt.getD i []).getD k 0 = (zbyt.getD j []).getD k 0) → i = j := by decide +kernel
theorem nf_at (hgv : (Jvm.Cond.and given_1 narrow_1).before args s = true) {i : Nat} {c : Cond} (h : nfl[i]? = some c) : c.before args s = true := flat_of_before _ hgv c (List.mem_of_getElem? h)
/-- the words: objects, bytes, apart -/
theorem zKS {A : Nat → Prop} (hgv : (Jvm.Cond.and given_1 narrow_1).before args s = true) (hA : ∀ a : Nat, a < s.heap.size → ¬ A a) : ∃ adK adV : Nat → Nat, vk_S 20 zlen zbyt adK adV A s s.heap ∧ ∀ i : Nat, i < 20 → (zst i).eval args s none [] s = some (.ref (adK i)) := by
  have h0 : ∀ i : Nat, ∃ q : Nat × Nat, i < 20 → (zst i).eval args s none [] s = some (.ref q.1) ∧ va_O "java/lang/String" q.1 A s s.heap ∧ va_OF "java/lang/String" "coder" "B" (.int 0) q.1 A s s.heap ∧ va_OF "java/lang/String" "value" "[B" (.ref q.2) q.1 A s s.heap ∧ va_T .byte q.2 (zlen.getD i 0) (fun j => .int ((zbyt.getD i []).getD j 0)) A s s.heap := by
    intro i
    by_cases hi : i < 20
    · obtain ⟨a, c, cA, kA, q1, q2, q3, q4, q5, q6, -⟩ := Cond.exactly_spec (args := args) (first := s) (o := none) (s := s) (idx := []) (t := zst i) (cls := "java/lang/String") (nf_at hgv (nf_ex i hi))
      obtain ⟨t, ht, hT⟩ := va_Tof (f := fun j => .int ((zbyt.getD i []).getD j 0)) (A := A) (nf_N i hi) (nf_at hgv (nf_ar i hi)) (va_eqt (nf_at hgv (nf_le i hi))) (fun j hj => va_eqt (nf_at hgv (nf_el i hi j hj))) hA
      exact ⟨(a, t), fun _ => ⟨q1, ⟨cA, q3, q5, by rw [q6]; exact q2, hA a (Array.getElem?_eq_some_iff.mp q3).1⟩, vk_OFof q1 (va_eqt (nf_at hgv (nf_co i hi))) hA, vk_OFof q1 ht hA, hT⟩⟩
    · exact ⟨(0, 0), fun h => absurd h hi⟩
  obtain ⟨ad, had⟩ := Classical.axiomOfChoice h0
  refine ⟨fun i => (ad i).1, fun i => (ad i).2, ⟨fun i hi => (had i hi).2, fun i j hi hj e => ?_⟩, fun i hi => (had i hi).1⟩
  have e : (ad i).1 = (ad j).1 := e
  obtain ⟨-, -, -, ⟨cf, k, fi, f, cell, b1, -, b3, -, b5, -⟩, ⟨ca, d1, -, -, -, d5, d6, -⟩⟩ := had i hi
  obtain ⟨-, -, -, ⟨cf', k', fi', f', cell', b1', -, b3', -, b5', -⟩, ⟨ca', d1', -, -, -, d5', d6', -⟩⟩ := had j hj
  rw [b1] at b1'
  cases b1'
  rw [e] at b3
  rw [b3] at b3'
  cases b3'
  rw [b5] at b5'
  have ev : (ad i).2 = (ad j).2 := by
    injection b5' with z
    injection z
  rw [ev] at d1
  rw [d1] at d1'
  cases d1'
  have en : zlen.getD i 0 = zlen.getD j 0 := by
    have h1 := d5.symm.trans d5'
    have n1 := nf_N i hi
    have n2 := nf_N j hj
    have t1 : (nI (zlen.getD i 0)).toInt = (nI (zlen.getD j 0)).toInt := congrArg Int32.toInt h1
    rw [nI_toInt (n := zlen.getD i 0) (by omega), nI_toInt (n := zlen.getD j 0) (by omega)] at t1
    omega
  refine nf_inj i hi j hj en (fun k hk => ?_)
  have h1 := d6 k hk
  have h2 := d6' k (by rw [← en]; exact hk)
  rw [h1] at h2
  injection h2 with z
  injection z
theorem nf_LW : ∀ j, j < 15 → nfl[7 + j]? = some (.eq (.elem (.static RX12 "LAW_WITHOUT" "[I") (.int (Int32.ofNat j))) (.int (zLW j))) := by decide +kernel
theorem zO0 {b L : Nat} {xs : Nat → Int32} (hts : ∀ w ∈ lw_tbl, w.before args s = true) (hgv : (Jvm.Cond.and given_1 narrow_1).before args s = true) (hX : va_X b L xs s s.heap) (hb : b < s.heap.size) : ∃ ao : Nat → Nat, ao 0 = b ∧ zOut (L, xs) ao (fun q => s.heap.size ≤ q) s s.heap := by
  have hA : ∀ a : Nat, a < s.heap.size → ¬ (fun q => s.heap.size ≤ q) a := fun a ha h => Nat.not_lt.mpr h ha
  obtain ⟨adK, adV, hS, hE⟩ := zKS (A := fun q => s.heap.size ≤ q) hgv hA
  obtain ⟨tL, eL, hT⟩ := va_Tof (args := args) (tm := (.static RX12 "LAW_WITHOUT" "[I")) (ty := .int) (N := 15) (f := fun j => .int (zLW j)) (A := fun q => s.heap.size ≤ q) (by decide) (nf_at hgv (i := 5) (by decide +kernel)) (va_eqt (nf_at hgv (i := 6) (by decide +kernel))) (fun j hj => va_eqt (nf_at hgv (nf_LW j hj))) hA
  obtain ⟨m0, -, -, -, em0, -⟩ := Cond.exactly_spec (args := args) (first := s) (o := none) (s := s) (idx := []) (t := .string RX12 369) (cls := "java/lang/String") (nf_at hgv (i := 59) (by decide +kernel))
  obtain ⟨m1, -, -, -, em1, -⟩ := Cond.exactly_spec (args := args) (first := s) (o := none) (s := s) (idx := []) (t := .string RX12 374) (cls := "java/lang/String") (nf_at hgv (i := 321) (by decide +kernel))
  obtain ⟨m2, -, -, -, em2, -⟩ := Cond.exactly_spec (args := args) (first := s) (o := none) (s := s) (idx := []) (t := .string RX12 376) (cls := "java/lang/String") (nf_at hgv (i := 273) (by decide +kernel))
  obtain ⟨m3, -, -, -, em3, -⟩ := Cond.exactly_spec (args := args) (first := s) (o := none) (s := s) (idx := []) (t := .string RX12 380) (cls := "java/lang/String") (nf_at hgv (i := 289) (by decide +kernel))
  obtain ⟨m4, -, -, -, em4, -⟩ := Cond.exactly_spec (args := args) (first := s) (o := none) (s := s) (idx := []) (t := .string RX12 383) (cls := "java/lang/String") (nf_at hgv (i := 350) (by decide +kernel))
  obtain ⟨m5, -, -, -, em5, -⟩ := Cond.exactly_spec (args := args) (first := s) (o := none) (s := s) (idx := []) (t := .string RX12 385) (cls := "java/lang/String") (nf_at hgv (i := 304) (by decide +kernel))
  have hio := va_Zqof (args := args) (A := fun q => s.heap.size ≤ q) (hts (.laysStatic RJ3 "SIOOBE_FORMATTER" "Ljava/util/function/BiFunction;") (zu4 87 rfl)) (hts (.initialized RJ3) (zu1 23 rfl)) (nf_at hgv (i := 25) (by decide +kernel)) hA
  obtain ⟨io, hio⟩ : ∃ io, va_Z RJ3 "SIOOBE_FORMATTER" "Ljava/util/function/BiFunction;" (.ref io) (fun q => s.heap.size ≤ q) s s.heap ∨ va_Z RJ3 "SIOOBE_FORMATTER" "Ljava/util/function/BiFunction;" .null (fun q => s.heap.size ≤ q) s s.heap := by
    rcases hio with h | ⟨t, h⟩
    · exact ⟨0, Or.inr h⟩
    · exact ⟨t, Or.inl h⟩
  refine ⟨fun i => if i = 0 then b else if i = 1 then tL else if i = 60 then io else if i < 30 then adK (i - 10) else if i < 40 then [m0, m1, m2, m3, m4, m5].getD (i - 30) 0 else adV (i - 40), rfl, ⟨hX, hb, hA b hb⟩, ⟨va_Zref (hts _ (zu1 185 rfl)) (hts _ (zu1 1 rfl)) eL hA, hT⟩, ?_, ?_, ?_, ?_, ?_, ?_, ?_, ?_, ?_, ?_, ?_, ?_, ?_, hio, ?_⟩
  · have e1 : ∀ i, i < 20 → (if 10 + i = 0 then b else if 10 + i = 1 then tL else if 10 + i = 60 then io else if 10 + i < 30 then adK (10 + i - 10) else if 10 + i < 40 then [m0, m1, m2, m3, m4, m5].getD (10 + i - 30) 0 else adV (10 + i - 40)) = adK i := fun i hi => by
      rw [if_neg (by omega), if_neg (by omega), if_neg (by omega), if_pos (by omega), Nat.add_sub_cancel_left]
    have e2 : ∀ i, i < 20 → (if 40 + i = 0 then b else if 40 + i = 1 then tL else if 40 + i = 60 then io else if 40 + i < 30 then adK (40 + i - 10) else if 40 + i < 40 then [m0, m1, m2, m3, m4, m5].getD (40 + i - 30) 0 else adV (40 + i - 40)) = adV i := fun i hi => by
      rw [if_neg (by omega), if_neg (by omega), if_neg (by omega), if_neg (by omega), if_neg (by omega), Nat.add_sub_cancel_left]
    refine ⟨fun i hi => ?_, fun i j hi hj e => ?_⟩
    · simp only []
      rw [e1 i hi, e2 i hi]
      exact hS.1 i hi
    · simp only [] at e
      rw [e1 i hi, e1 j hj] at e
      exact hS.2 i j hi hj e
  · intro q hq
    rcases List.mem_cons.mp hq with rfl | hq
    · exact vk_R.of (A := args) (hts _ (zu4 57 rfl)) (hE 0 (by omega))
    rcases List.mem_cons.mp hq with rfl | hq
    · exact vk_R.of (A := args) (hts _ (zu4 110 rfl)) (hE 1 (by omega))
    rcases List.mem_cons.mp hq with rfl | hq
    · exact vk_R.of (A := args) (hts _ (zu4 111 rfl)) (hE 2 (by omega))
    rcases List.mem_cons.mp hq with rfl | hq
    · exact vk_R.of (A := args) (hts _ (zu4 112 rfl)) (hE 3 (by omega))
    rcases List.mem_cons.mp hq with rfl | hq
    · exact vk_R.of (A := args) (hts _ (zu4 113 rfl)) (hE 4 (by omega))
    rcases List.mem_cons.mp hq with rfl | hq
    · exact vk_R.of (A := args) (hts _ (zu4 114 rfl)) (hE 5 (by omega))
    rcases List.mem_cons.mp hq with rfl | hq
    · exact vk_R.of (A := args) (hts _ (zu4 208 rfl)) (hE 6 (by omega))
    rcases List.mem_cons.mp hq with rfl | hq
    · exact vk_R.of (A := args) (hts _ (zu4 209 rfl)) (hE 7 (by omega))
    rcases List.mem_cons.mp hq with rfl | hq
    · exact vk_R.of (A := args) (hts _ (zu4 210 rfl)) (hE 8 (by omega))
    rcases List.mem_cons.mp hq with rfl | hq
    · exact vk_R.of (A := args) (hts _ (zu4 211 rfl)) (hE 9 (by omega))
    rcases List.mem_cons.mp hq with rfl | hq
    · exact vk_R.of (A := args) (hts _ (zu4 212 rfl)) (va_eqR (t := .string RX0 91) (nf_at hgv (i := 191) (by decide +kernel)) (hE 2 (by omega)))
    rcases List.mem_cons.mp hq with rfl | hq
    · exact vk_R.of (A := args) (hts _ (zu4 213 rfl)) (hE 10 (by omega))
    rcases List.mem_cons.mp hq with rfl | hq
    · exact vk_R.of (A := args) (hts _ (zu4 214 rfl)) (hE 11 (by omega))
    rcases List.mem_cons.mp hq with rfl | hq
    · exact vk_R.of (A := args) (hts _ (zu4 215 rfl)) (hE 12 (by omega))
    rcases List.mem_cons.mp hq with rfl | hq
    · exact vk_R.of (A := args) (hts _ (zu4 197 rfl)) (hE 13 (by omega))
    rcases List.mem_cons.mp hq with rfl | hq
    · exact vk_R.of (A := args) (hts _ (zu4 203 rfl)) (hE 14 (by omega))
    rcases List.mem_cons.mp hq with rfl | hq
    · exact vk_R.of (A := args) (hts _ (zu5 22 rfl)) (hE 15 (by omega))
    rcases List.mem_cons.mp hq with rfl | hq
    · exact vk_R.of (A := args) (hts _ (zu5 9 rfl)) (hE 16 (by omega))
    rcases List.mem_cons.mp hq with rfl | hq
    · exact vk_R.of (A := args) (hts _ (zu5 17 rfl)) (va_eqR (t := .string RX5 110) (nf_at hgv (i := 232) (by decide +kernel)) (hE 9 (by omega)))
    rcases List.mem_cons.mp hq with rfl | hq
    · exact vk_R.of (A := args) (hts _ (zu5 18 rfl)) (hE 17 (by omega))
    rcases List.mem_cons.mp hq with rfl | hq
    · exact vk_R.of (A := args) (hts _ (zu5 19 rfl)) (hE 18 (by omega))
    rcases List.mem_cons.mp hq with rfl | hq
    · exact vk_R.of (A := args) (hts _ (zu5 20 rfl)) (va_eqR (t := .string RX5 108) (nf_at hgv (i := 255) (by decide +kernel)) (hE 8 (by omega)))
    rcases List.mem_cons.mp hq with rfl | hq
    · exact vk_R.of (A := args) (hts _ (zu5 21 rfl)) (hE 19 (by omega))
    rcases List.mem_cons.mp hq with rfl | hq
    · exact vk_R.of (A := args) (hts _ (zu4 2 rfl)) em0
    rcases List.mem_cons.mp hq with rfl | hq
    · exact vk_R.of (A := args) (hts _ (zu5 209 rfl)) em1
    rcases List.mem_cons.mp hq with rfl | hq
    · exact vk_R.of (A := args) (hts _ (zu5 97 rfl)) em2
    rcases List.mem_cons.mp hq with rfl | hq
    · exact vk_R.of (A := args) (hts _ (zu5 142 rfl)) em3
    rcases List.mem_cons.mp hq with rfl | hq
    · exact vk_R.of (A := args) (hts _ (zu6 15 rfl)) em4
    rcases List.mem_cons.mp hq with rfl | hq
    · exact vk_R.of (A := args) (hts _ (zu5 184 rfl)) em5
    · cases hq
  · exact va_Zof (args := args) (hts _ (zu4 71 rfl)) (hts _ (zu1 21 rfl)) (va_eqi (nf_at hgv (i := 24) (by decide +kernel))) hA
  · exact vx_Zqof (args := args) (hts _ (zu3 229 rfl)) (hts _ (zu1 17 rfl)) (nf_at hgv (i := 22) (by decide +kernel)) hA
  · exact vx_Zqof (args := args) (hts _ (zu3 231 rfl)) (hts _ (zu1 17 rfl)) (nf_at hgv (i := 23) (by decide +kernel)) hA
  · exact va_AO.of (A := args) (hts _ (zu2 118 rfl))
  · exact va_AOA.of (A := args) (hts _ (zu6 173 rfl))
  · exact va_Nc.of (nf_at hgv (i := 58) (by decide +kernel))
  · exact va_Nc.of (nf_at hgv (i := 43) (by decide +kernel))
  · intro q hq
    rcases List.mem_cons.mp hq with rfl | hq
    · exact va_Nw.of rfl (A := args) (hts _ (zu1 38 rfl))
    rcases List.mem_cons.mp hq with rfl | hq
    · exact va_Nw.of rfl (A := args) (hts _ (zu1 206 rfl))
    rcases List.mem_cons.mp hq with rfl | hq
    · exact va_Nw.of rfl (A := args) (hts _ (zu1 223 rfl))
    rcases List.mem_cons.mp hq with rfl | hq
    · exact va_Nw.of rfl (A := args) (hts _ (zu2 34 rfl))
    rcases List.mem_cons.mp hq with rfl | hq
    · exact va_Nw.of rfl (A := args) (hts _ (zu2 74 rfl))
    rcases List.mem_cons.mp hq with rfl | hq
    · exact va_Nw.of rfl (A := args) (hts _ (zu2 113 rfl))
    rcases List.mem_cons.mp hq with rfl | hq
    · exact va_Nw.of rfl (A := args) (hts _ (zu2 142 rfl))
    rcases List.mem_cons.mp hq with rfl | hq
    · exact va_Nw.of rfl (A := args) (hts _ (zu3 173 rfl))
    cases hq
  · exact va_Nw.of rfl (A := args) (hts _ (zu1 184 rfl))
  · exact va_Nw.of rfl (A := args) (hts _ (zu3 204 rfl))
  · exact va_Nw.of rfl (A := args) (hts _ (zu5 135 rfl))
  · intro q hq
    rcases List.mem_cons.mp hq with rfl | hq
    · exact va_Nw.of rfl (A := args) (hts _ (zu3 206 rfl))
    rcases List.mem_cons.mp hq with rfl | hq
    · exact va_Nw.of rfl (A := args) (hts _ (zu3 208 rfl))
    rcases List.mem_cons.mp hq with rfl | hq
    · exact va_Nw.of rfl (A := args) (hts _ (zu3 210 rfl))
    cases hq
end ZWorld
