/-! ===== new things over (I, g); a new State ===== -/
section ZNews
variable {l : Launch} {Xi : zXi} {M : zM} {d kc ks pc : Nat} {Ls : List (Option Value)} {S : List Value} {I : zI} {g : zG} {post : zR → zH → Prop}
theorem zJ_wid {h : zH} {kc' ks' : Nat} (h1 : kc ≤ kc') (h2 : ks ≤ ks') (k : zJ l Xi M d kc ks pc Ls S h post) : zJ l Xi M d kc' ks' pc Ls S h post := by
  intro p e R s m args below meth c H locs cells slots ls D cT ao ad A n0 ad0 E hc hs hS hP hn he hl hv
  exact k p e R s m args below meth c H locs cells slots ls D cT ao ad A n0 ad0 E (by omega) (by omega) hS hP hn he hl hv
def gnew (g : zG) (sp : zS) : zG := (g.1 + 1, va_up g.2.1 g.1 sp, va_up g.2.2.1 g.1 (fun _ => none), va_up g.2.2.2 g.1 (fun _ => 0))
def gset (g : zG) (a k b : Nat) : zG := (g.1, g.2.1, va_up g.2.2.1 a (va_up (g.2.2.1 a) k (some b)), g.2.2.2)
def inew (I : zI) (n : Nat) : zI := va_up I n (fun _ => 0)
theorem zP_newi {n : Int32} {N : Nat} (hN : n = nI N) (hN2 : N ≤ 100000) (hB : g.1 < zB) (hd : decode M.2.2.1 pc = .ok (.newarray .int, 2)) (kk : zJ l Xi M d kc ks (pc + 2) Ls (.ref g.1 :: S) (inew I g.1, gnew g (.inr (0, N))) post) : zJ l Xi M d (kc + 1) (ks + N) pc Ls (.int n :: S) (I, g) post := zJ_newi (h := (I, g)) hN hN2 lw_int hB hd kk
theorem zP_newz {n : Int32} {N : Nat} (hN : n = nI N) (hN2 : N ≤ 100000) (hB : g.1 < zB) (hd : decode M.2.2.1 pc = .ok (.newarray .boolean, 2)) (kk : zJ l Xi M d kc ks (pc + 2) Ls (.ref g.1 :: S) (inew I g.1, gnew g (.inr (4, N))) post) : zJ l Xi M d (kc + 1) (ks + N) pc Ls (.int n :: S) (I, g) post := zJ_newz (h := (I, g)) hN hN2 lw_bool hB hd kk
theorem zP_newl {n : Int32} {N : Nat} (hN : n = nI N) (hN2 : N ≤ 100000) (hB : g.1 < zB) (hd : decode M.2.2.1 pc = .ok (.newarray .long, 2)) (kk : zJ l Xi M d kc ks (pc + 2) Ls (.ref g.1 :: S) (inew I g.1, gnew g (.inr (1, N))) post) : zJ l Xi M d (kc + 1) (ks + N) pc Ls (.int n :: S) (I, g) post := zJ_newl (h := (I, g)) hN hN2 lw_long hB hd kk
theorem zP_newq {idx : Nat} {n : Int32} {N : Nat} (hN : n = nI N) (hN2 : N ≤ 100000) (hw : Cond.classLink M.1 idx RX8 ∈ zGT) (hB : g.1 < zB) (hd : decode M.2.2.1 pc = .ok (.anewarray idx, 3)) (kk : zJ l Xi M d kc ks (pc + 3) Ls (.ref g.1 :: S) (inew I g.1, gnew g (.inr (2, N))) post) : zJ l Xi M d (kc + 1) (ks + N) pc Ls (.int n :: S) (I, g) post := zJ_newq (h := (I, g)) hN hN2 hw hB hd kk
theorem zP_new {idx ci N : Nat} (lk : zLN M.1 idx ci N) (hB : g.1 < zB) (hd : decode M.2.2.1 pc = .ok (.new idx, 3)) (kk : zJ l Xi M d kc ks (pc + 3) Ls (.ref g.1 :: S) (inew I g.1, gnew g (.inl ci)) post) : zJ l Xi M d (kc + 1) (ks + N) pc Ls S (I, g) post := zJ_new (h := (I, g)) lk hB hd kk
theorem zP_putr {idx ci k a b : Nat} (lk : zLR M.1 idx ci k) (hi : M.2.1.name = "<init>") (ho : zOb g a ci) (hbb : b < g.1) (hb : (zfl ci)[k]? = some false) (hd : decode M.2.2.1 pc = .ok (.putfield idx, 3)) (kk : zJ l Xi M d kc ks (pc + 3) Ls S (I, gset g a k b) post) : zJ l Xi M d kc ks pc Ls (.ref b :: .ref a :: S) (I, g) post := zJ_putr (h := (I, g)) lk hi ho.1 ho.2 hbb hb hd kk
theorem zP_aald {a N b : Nat} {i : Int32} (ha : a < g.1) (hs : g.2.1 a = .inr (2, N)) (hin : vp_in i N) (hj : g.2.2.1 a i.toNatClampNeg = some b) (hd : decode M.2.2.1 pc = .ok (.aaload, 1)) (kk : zJ l Xi M d kc ks (pc + 1) Ls (.ref b :: S) (I, g) post) : zJ l Xi M d kc ks pc Ls (.int i :: .ref a :: S) (I, g) post := zJ_aald (h := (I, g)) (t := 0) (by decide) ha hs hin hj hd kk
theorem zP_aaldN {a N : Nat} {i : Int32} (ha : a < g.1) (hs : g.2.1 a = .inr (2, N)) (hin : vp_in i N) (hj : g.2.2.1 a i.toNatClampNeg = none) (hd : decode M.2.2.1 pc = .ok (.aaload, 1)) (kk : zJ l Xi M d kc ks (pc + 1) Ls (.null :: S) (I, g) post) : zJ l Xi M d kc ks pc Ls (.int i :: .ref a :: S) (I, g) post := zJ_aaldN (h := (I, g)) (t := 0) (by decide) ha hs hin hj hd kk
theorem zP_aast {a b N : Nat} {i : Int32} (ha : a < g.1) (hs : g.2.1 a = .inr (2, N)) (hb : zOb g b 8) (hin : vp_in i N) (hd : decode M.2.2.1 pc = .ok (.aastore, 1)) (kk : zJ l Xi M d kc ks (pc + 1) Ls S (I, gset g a i.toNatClampNeg b) post) : zJ l Xi M d kc ks pc Ls (.ref b :: .int i :: .ref a :: S) (I, g) post := zJ_aast (h := (I, g)) ha hs hb.1 hb.2 hin hd kk
/-- what is new lies from a on; K cells of it -/
def nwB (a K : Nat) (I : zI) (g : zG) (J : zI) (g' : zG) : Prop := g'.1 = a + K ∧ ∀ k, k < a → J k = I k ∧ g'.2.1 k = g.2.1 k ∧ g'.2.2.1 k = g.2.2.1 k ∧ g'.2.2.2 k = g.2.2.2 k
theorem va_ne {α : Type} {f : Nat → α} {a b : Nat} {x : α} (h : b ≠ a) : va_up f a x b = f b := by simp [va_up, h]
theorem va_eq {α : Type} {f : Nat → α} {a : Nat} {x : α} : va_up f a x a = x := by simp [va_up]
theorem k_stateInit (hl : l.stackTraces = false) (hd : 2 ≤ d) {a : Nat} (ha : g.1 = a + 1) (ho : zOb g a 8) (hB : a + 10 < zB) : zC l Xi mX8_init d 5 582 [.ref a] (I, g) (fun r h' => r = .inl none ∧ ∃ J g', h' = (J, g') ∧ nwB a 6 I g J g' ∧ J a = I a ∧ (∀ i, 1 ≤ i → i ≤ 5 → J (a + i) = fun _ => 0) ∧ zK g' a 8 zLt_State) := by
  refine zC_of hl rfl rfl rfl (Nat.le_of_ble_eq_true rfl) (zav_r ho.1 zav_0) ?_
  have e0 : g.2.1 a = .inl 8 := ho.2
  refine zJ_aload_n dX8_init_0 rfl ?_
  refine zJ_objInit lo_X8_3 (Nat.le_of_ble_eq_true rfl) (by omega) dX8_init_1 ?_
  refine zJ_aload_n dX8_init_4 rfl ?_
  refine zJ_sipush (v := nI 384) dX8_init_5 rfl ?_
  refine zP_newi (kc := 4) (ks := 198) (N := 384) rfl (by decide) (by omega) dX8_init_8 ?_
  refine zP_putr lr_X8_9 rfl ⟨by show a < g.1 + 1; omega, by show va_up g.2.1 g.1 _ a = _; rw [va_ne (by omega)]; exact e0⟩ (by show g.1 < g.1 + 1; omega) rfl dX8_init_10 ?_
  refine zJ_aload_n dX8_init_13 rfl ?_
  refine zJ_bipush (v := nI 64) dX8_init_14 rfl ?_
  refine zP_newi (kc := 3) (ks := 134) (N := 64) rfl (by decide) (by show g.1 + 1 < zB; omega) dX8_init_16 ?_
  refine zP_putr lr_X8_15 rfl ⟨by show a < g.1 + 2; omega, by simp [gnew, gset, va_up, show a ≠ g.1 by omega, show a ≠ g.1 + 1 by omega, e0]⟩ (by show g.1 + 1 < g.1 + 2; omega) rfl dX8_init_18 ?_
  refine zJ_aload_n dX8_init_21 rfl ?_
  refine zJ_bipush (v := nI 64) dX8_init_22 rfl ?_
  refine zP_newi (kc := 2) (ks := 70) (N := 64) rfl (by decide) (by show g.1 + 2 < zB; omega) dX8_init_24 ?_
  refine zP_putr lr_X8_18 rfl ⟨by show a < g.1 + 3; omega, by simp [gnew, gset, va_up, show a ≠ g.1 by omega, show a ≠ g.1 + 1 by omega, show a ≠ g.1 + 2 by omega, show a ≠ g.1 + 1 + 1 by omega, e0]⟩ (by show g.1 + 2 < g.1 + 3; omega) rfl dX8_init_26 ?_
  refine zJ_aload_n dX8_init_29 rfl ?_
  refine zJ_bipush (v := nI 64) dX8_init_30 rfl ?_
  refine zP_newi (kc := 1) (ks := 6) (N := 64) rfl (by decide) (by show g.1 + 3 < zB; omega) dX8_init_32 ?_
  refine zP_putr lr_X8_21 rfl ⟨by show a < g.1 + 4; omega, by simp [gnew, gset, va_up, show a ≠ g.1 by omega, show a ≠ g.1 + 1 by omega, show a ≠ g.1 + 2 by omega, show a ≠ g.1 + 1 + 1 by omega, show a ≠ g.1 + 1 + 1 + 1 by omega, e0]⟩ (by show g.1 + 3 < g.1 + 4; omega) rfl dX8_init_34 ?_
  refine zJ_aload_n dX8_init_37 rfl ?_
  refine zJ_bipush (v := nI 6) dX8_init_38 rfl ?_
  refine zP_newi (kc := 0) (ks := 0) (N := 6) rfl (by decide) (by show g.1 + 4 < zB; omega) dX8_init_40 ?_
  refine zP_putr lr_X8_24 rfl ⟨by show a < g.1 + 5; omega, by simp [gnew, gset, va_up, show a ≠ g.1 by omega, show a ≠ g.1 + 1 by omega, show a ≠ g.1 + 2 by omega, show a ≠ g.1 + 1 + 1 by omega, show a ≠ g.1 + 1 + 1 + 1 by omega, show a ≠ g.1 + 1 + 1 + 1 + 1 by omega, e0]⟩ (by show g.1 + 4 < g.1 + 5; omega) rfl dX8_init_42 ?_
  refine zJ_vret rfl dX8_init_45 ?_
  obtain ⟨n, hn⟩ : ∃ n, g.1 = n := ⟨_, rfl⟩
  refine ⟨rfl, _, _, rfl, ⟨?_, fun k hk => ⟨?_, ?_, ?_, ?_⟩⟩, ?_, fun i h1 h5 => ?_, ⟨?_, ?_⟩, fun k q hq => ?_⟩
  · show g.1 + 5 = a + 6; omega
  · simp [inew, gnew, gset, va_up, hn, show k ≠ n by omega, show k ≠ n + 1 by omega, show k ≠ n + 1 + 1 by omega, show k ≠ n + 1 + 1 + 1 by omega, show k ≠ n + 1 + 1 + 1 + 1 by omega]
  · simp [inew, gnew, gset, va_up, hn, show k ≠ n by omega, show k ≠ n + 1 by omega, show k ≠ n + 1 + 1 by omega, show k ≠ n + 1 + 1 + 1 by omega, show k ≠ n + 1 + 1 + 1 + 1 by omega]
  · simp [inew, gnew, gset, va_up, hn, show k ≠ a by omega, show k ≠ n by omega, show k ≠ n + 1 by omega, show k ≠ n + 1 + 1 by omega, show k ≠ n + 1 + 1 + 1 by omega, show k ≠ n + 1 + 1 + 1 + 1 by omega]
  · simp [inew, gnew, gset, va_up, hn, show k ≠ a by omega, show k ≠ n by omega, show k ≠ n + 1 by omega, show k ≠ n + 1 + 1 by omega, show k ≠ n + 1 + 1 + 1 by omega, show k ≠ n + 1 + 1 + 1 + 1 by omega]
  · simp [inew, gnew, gset, va_up, hn, show a ≠ n by omega, show a ≠ n + 1 by omega, show a ≠ n + 1 + 1 by omega, show a ≠ n + 1 + 1 + 1 by omega, show a ≠ n + 1 + 1 + 1 + 1 by omega]
  · have hn2 : n = a + 1 := by omega
    subst hn2
    have h15 : i = 1 ∨ i = 2 ∨ i = 3 ∨ i = 4 ∨ i = 5 := by omega
    rcases h15 with rfl | rfl | rfl | rfl | rfl <;> simp [inew, gnew, gset, va_up, hn]
  · show a < g.1 + 5; omega
  · simp [inew, gnew, gset, va_up, hn, e0, show a ≠ n by omega, show a ≠ n + 1 by omega, show a ≠ n + 1 + 1 by omega, show a ≠ n + 1 + 1 + 1 by omega, show a ≠ n + 1 + 1 + 1 + 1 by omega]
  · have hn2 : n = a + 1 := by omega
    subst hn2
    match k, hq with
    | 0, hq => cases hq; refine ⟨?_, ?_, ?_⟩ <;> simp [zRf, inew, gnew, gset, va_up, hn, show ¬ a = a + 1 + 1 by omega, show ¬ a = a + 1 + 1 + 1 by omega, show ¬ a = a + 1 + 1 + 1 + 1 by omega, show ¬ a = a + 1 + 1 + 1 + 1 + 1 by omega]
    | 1, hq => cases hq; refine ⟨?_, ?_, ?_⟩ <;> simp [zRf, inew, gnew, gset, va_up, hn, show ¬ a = a + 1 + 1 by omega, show ¬ a = a + 1 + 1 + 1 by omega, show ¬ a = a + 1 + 1 + 1 + 1 by omega, show ¬ a = a + 1 + 1 + 1 + 1 + 1 by omega]
    | 2, hq => cases hq; refine ⟨?_, ?_, ?_⟩ <;> simp [zRf, inew, gnew, gset, va_up, hn, show ¬ a = a + 1 + 1 by omega, show ¬ a = a + 1 + 1 + 1 by omega, show ¬ a = a + 1 + 1 + 1 + 1 by omega, show ¬ a = a + 1 + 1 + 1 + 1 + 1 by omega]
    | 3, hq => cases hq; refine ⟨?_, ?_, ?_⟩ <;> simp [zRf, inew, gnew, gset, va_up, hn, show ¬ a = a + 1 + 1 by omega, show ¬ a = a + 1 + 1 + 1 by omega, show ¬ a = a + 1 + 1 + 1 + 1 by omega, show ¬ a = a + 1 + 1 + 1 + 1 + 1 by omega]
    | 4, hq => cases hq; refine ⟨?_, ?_, ?_⟩ <;> simp [zRf, inew, gnew, gset, va_up, hn, show ¬ a = a + 1 + 1 by omega, show ¬ a = a + 1 + 1 + 1 by omega, show ¬ a = a + 1 + 1 + 1 + 1 by omega, show ¬ a = a + 1 + 1 + 1 + 1 + 1 by omega]
    | k + 5, hq => simp [zLt_State] at hq
theorem zP_newS (hM : M.1 = RX7) (hl : l.stackTraces = false) (hdp : 3 ≤ d) (hst : (S.map fun v => v.category).sum ≤ 7) (hB : g.1 + 10 < zB) (d0 : decode M.2.2.1 pc = .ok (.new 9, 3)) (d3 : decode M.2.2.1 (pc + 3) = .ok (.dup, 1)) (d4 : decode M.2.2.1 (pc + 4) = .ok (.invokespecial 34, 3))
    (kk : ∀ J g', nwB g.1 6 I g J g' → zK g' g.1 8 zLt_State → zJ l Xi M d kc ks (pc + 7) Ls (.ref g.1 :: S) (J, g') post) : zJ l Xi M d (kc + 6) (ks + 588) pc Ls S (I, g) post := by
  obtain ⟨cls, M2⟩ := M
  have hM' : cls = RX7 := hM
  subst hM'
  refine zP_new (g := g) (I := I) (kc := kc + 5) (ks := ks + 582) ln_X7_9 (show g.1 < zB by omega) d0 ?_
  refine zJ_dup d3 rfl ?_
  refine zJ_callIN (h := (inew I g.1, gnew g (.inl 8))) (kc' := 5) (ks' := 582) (.ref g.1 :: S) li_X7_34 (k_stateInit (d := d - 1) (a := g.1) hl (by omega) rfl ⟨by show g.1 < g.1 + 1; omega, by show va_up g.2.1 g.1 _ g.1 = _; rw [va_eq]⟩ (by omega)) (fun E h1 q => by cases q.1) rfl (by omega) (by rw [List.map_cons, List.sum_cons]; show 1 + _ ≤ 8; omega) d4 (fun r h1 q _ => ?_)
  obtain ⟨q1, J, g', q2, q3, q4, q5, q6⟩ := q
  cases q1
  rw [q2]
  refine kk J g' ⟨q3.1, fun k hk => ?_⟩ q6
  obtain ⟨a1, a2, a3, a4⟩ := q3.2 k hk
  refine ⟨by rw [a1]; exact va_ne (by omega), by rw [a2]; exact va_ne (by omega), by rw [a3]; exact va_ne (by omega), by rw [a4]; exact va_ne (by omega)⟩
end ZNews
