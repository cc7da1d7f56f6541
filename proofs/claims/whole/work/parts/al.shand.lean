/-! ===== static calls of methods with handlers; the law itself ===== -/
section ZSH
def zLSH (own : String) (idx : Nat) (M' : zM) (n : Nat) : Prop := zws M' = Cond.codeWith M'.2.1 M'.2.2.1 M'.2.2.2.1 M'.2.2.2.2.1 M'.2.2.2.2.2 :: zGT ∧ Cond.methodLink own idx M'.2.1 ∈ zGT ∧ Cond.initialized M'.2.1.cls ∈ zGT ∧ Cond.codeWith M'.2.1 M'.2.2.1 M'.2.2.2.1 M'.2.2.2.2.1 M'.2.2.2.2.2 ∈ zGT ∧ (M'.2.1.cls ≠ "java/lang/invoke/MethodHandle" ∧ M'.2.1.cls ≠ "java/lang/invoke/VarHandle" ∧ (parseMethodDescriptor M'.2.1.desc).map (fun d => d.parameters.length) = some n) ∧ M'.2.2.2.1 ≤ 41 ∧ Cond.static M'.2.1 ∈ zGT
theorem zLSH_call {own : String} {idx n d d' kc' ks' : Nat} {M' : zM} {R : Room} {s : State} {args : Array Value} (lk : zLSH own idx M' n) (hts : ∀ w ∈ zGT, w.before args s = true) (hd1 : d' + 1 ≤ d) (hf : d ≤ R.frames) (hlo : 60 * d ≤ R.locals) : vx_CSW R s args own idx M'.2.1 M'.2.2.1 M'.2.2.2.1 M'.2.2.2.2.1 M'.2.2.2.2.2 (zws M') (zrm d' kc' ks') kc' ks' n := by
  obtain ⟨h1, h2, h3, h4, h5, h6, h7⟩ := lk
  refine vx_cwSW (Ts := zGT) (ws' := zGT) n hts ?_ h1 rfl rfl h5 ⟨?_, ?_⟩
  · intro w hw
    have hm : w ∈ zGT := by
      unfold va_wsS at hw
      rcases List.mem_append.mp hw with hw | hw
      · rcases List.mem_cons.mp hw with rfl | hw
        · exact h2
        · rcases List.mem_cons.mp hw with rfl | hw
          · exact h7
          · rw [List.mem_singleton.mp hw]; exact h3
      · rw [h1] at hw
        rcases List.mem_cons.mp hw with rfl | hw
        · exact h4
        · exact hw
    exact ⟨hm, good_of_word (zGT_good hm)⟩
  · show d' + 1 ≤ R.frames
    omega
  · show 8 + (M'.2.2.2.1 + 11) + 60 * d' ≤ R.locals
    omega
variable {l : Launch} {Xi : zXi} {M : zM} {d kc ks pc : Nat} {Ls : List (Option Value)} {S : List Value} {h : zH} {post : zR → zH → Prop}
theorem zJ_callSH {M' : zM} {idx d' kc' ks' : Nat} (As rest : List Value) {post1 : zR → zH → Prop} (lk : zLSH M.1 idx M' As.length) (hC : zC l Xi M' d' kc' ks' As h post1) (hst : S = As.reverse ++ rest) (hd1 : d' + 1 ≤ d) (hcat : (rest.map fun v => v.category).sum ≤ 8) (hM : M.2.2.2.2.2 = []) (hd : decode M.2.2.1 pc = .ok (.invokestatic idx, 3))
    (kx : ∀ E h1, post1 (.inr E) h1 → h.2.1 ≤ h1.2.1 → post (.inr E) h1) (kk : ∀ r h1, post1 (.inl r) h1 → h.2.1 ≤ h1.2.1 → zJ l Xi M d kc ks (pc + 3) Ls (r.toList ++ rest) h1 post) : zJ l Xi M d (kc + kc') (ks + ks') pc Ls S h post := by
  intro p e R s m args below meth c H locs cells slots ls D cT ao ad A n0 ad0 E hc hs1 hS hP hn he hl hv
  subst hst
  have hts := E.2.2.2.2.2.2.1
  obtain ⟨hF, hpre⟩ := zpre E.2.2.2.2.2.2.2.2.2.2.1 E.2.2.2.2.2.2.2.2.2.2.2.1 hS hP
  have hrest : ∀ v ∈ rest, zok h.2.1 v := fun v q => hv v (List.mem_append_right _ q)
  refine z_callX (D := D) (cT := cT) (ao := ao) (ad := ad) (n1 := h.2.1) (post1 := post1) (A1 := va_A (zw ad cT h) H.size) (rest := rest.map (zv ad)) (vx_runSX (hh := M'.2.2.2.2.2) (As := As.map (zv ad)) (rest := rest.map (zv ad)) (Ts := zGT) ⟨E.1, E.2.1, E.2.2.1, E.2.2.2.2.2.1, hts⟩ (hC D cT ao ad H.size) (zLSH_call lk hts hd1 E.2.2.2.2.2.2.2.2.1 E.2.2.2.2.2.2.2.2.2.1) ⟨zPc_blind, fun U hU hW => hpre U hU hW As⟩ rfl (by simp) hl.1.1 (by simp) (lv_room (by rw [zS_cat]; exact hcat)) hd ⟨by omega, by omega⟩) hS (fun q _ hq => hF q hq) hF ?_ ?_
  · intro E1 ce q9 h' ad' t H1 locs1 ht hvm hp hn1 he1 hP1 hS1 hce hcv hcl1
    refine vx_out (by rw [E.2.2.2.2.2.2.2.1, hM]; intro x hx; cases hx) E.2.2.2.2.1 hce hcv hcl1 (fun t2 ht2 hv2 => ⟨⟨h', ad', kx E1 h' hp hn1, Nat.le_trans hn hn1, zext_trans he hn he1, by
      have := zpost (s := t2) hF (hv2.symm.trans hvm) hP1
      rw [ht2]; exact this⟩, hS1.F ht2⟩) hS1.2.2 (by omega) (by omega)
  · intro r h' ad' t H1 locs1 ht hvm hp hn1 he1 hz hP1 hS1
    have K := kk r h' hp hn1 p e R s m args below meth c H1 locs1 (cells + kc') (slots + ks') ls D cT ao ad' A n0 ad0 E (by omega) (by omega) hS1 (zpost hF hvm hP1) (Nat.le_trans hn hn1) (zext_trans he hn he1) (zL_ext he1 hn1 hl) (fun v q => by
      rcases List.mem_append.mp q with q | q
      · cases r with
        | none => cases q
        | some w => rw [List.mem_singleton.mp q]; exact hz w rfl
      · exact zok_mono hn1 (hrest v q))
    rw [List.map_append, zS_ext he1 hrest] at K
    have e9 : (r.toList).map (zv ad') = (r.map (zv ad')).toList := by cases r <;> rfl
    rw [e9] at K
    exact K
end ZSH
theorem lsh_L_103 : zLSH RL 103 mL_board 3 := ⟨rfl, (zt3 190 rfl rfl), (zt1 0 rfl rfl), (zt3 192 rfl rfl), by decide +kernel, by decide, (zt3 191 rfl rfl)⟩
theorem lsh_L_113 : zLSH RL 113 mL_law 3 := ⟨rfl, (zt4 153 rfl rfl), (zt1 0 rfl rfl), (zt4 155 rfl rfl), by decide +kernel, by decide, (zt4 154 rfl rfl)⟩
theorem lsh_L_116 : zLSH RL 116 mL_work 3 := ⟨rfl, (zt4 221 rfl rfl), (zt1 0 rfl rfl), (zt4 223 rfl rfl), by decide +kernel, by decide, (zt4 222 rfl rfl)⟩
theorem lsh_L_119 : zLSH RL 119 mL_book 3 := ⟨rfl, (zt5 57 rfl rfl), (zt1 0 rfl rfl), (zt5 59 rfl rfl), by decide +kernel, by decide, (zt5 58 rfl rfl)⟩
theorem lsh_L_130 : zLSH RL 130 mL_told 3 := ⟨rfl, (zt5 86 rfl rfl), (zt1 0 rfl rfl), (zt5 88 rfl rfl), by decide +kernel, by decide, (zt5 87 rfl rfl)⟩
theorem lsh_L_133 : zLSH RL 133 mL_net 4 := ⟨rfl, (zt5 121 rfl rfl), (zt1 0 rfl rfl), (zt5 123 rfl rfl), by decide +kernel, by decide, (zt5 122 rfl rfl)⟩
theorem lsh_L_137 : zLSH RL 137 mL_place 5 := ⟨rfl, (zt5 173 rfl rfl), (zt1 0 rfl rfl), (zt5 175 rfl rfl), by decide +kernel, by decide, (zt5 174 rfl rfl)⟩
theorem lsh_L_141 : zLSH RL 141 mL_cost 5 := ⟨rfl, (zt5 190 rfl rfl), (zt1 0 rfl rfl), (zt5 192 rfl rfl), by decide +kernel, by decide, (zt5 191 rfl rfl)⟩
theorem lsh_L_144 : zLSH RL 144 mL_would 10 := ⟨rfl, (zt5 198 rfl rfl), (zt1 0 rfl rfl), (zt5 200 rfl rfl), by decide +kernel, by decide, (zt5 199 rfl rfl)⟩
theorem lsh_L_148 : zLSH RL 148 mL_parent 5 := ⟨rfl, (zt5 211 rfl rfl), (zt1 0 rfl rfl), (zt5 213 rfl rfl), by decide +kernel, by decide, (zt5 212 rfl rfl)⟩
theorem lsh_L_151 : zLSH RL 151 mL_dist 5 := ⟨rfl, (zt5 218 rfl rfl), (zt1 0 rfl rfl), (zt5 220 rfl rfl), by decide +kernel, by decide, (zt5 219 rfl rfl)⟩
theorem lsh_L_154 : zLSH RL 154 mL_spared 5 := ⟨rfl, (zt5 229 rfl rfl), (zt1 0 rfl rfl), (zt5 231 rfl rfl), by decide +kernel, by decide, (zt5 230 rfl rfl)⟩
theorem lsh_L_161 : zLSH RL 161 mL_jam 3 := ⟨rfl, (zt6 4 rfl rfl), (zt1 0 rfl rfl), (zt6 6 rfl rfl), by decide +kernel, by decide, (zt6 5 rfl rfl)⟩
theorem lsh_L_164 : zLSH RL 164 mL_ahead 4 := ⟨rfl, (zt6 20 rfl rfl), (zt1 0 rfl rfl), (zt6 22 rfl rfl), by decide +kernel, by decide, (zt6 21 rfl rfl)⟩
theorem lsh_L_167 : zLSH RL 167 mL_fewest 3 := ⟨rfl, (zt6 31 rfl rfl), (zt1 0 rfl rfl), (zt6 33 rfl rfl), by decide +kernel, by decide, (zt6 32 rfl rfl)⟩
theorem lsh_L_170 : zLSH RL 170 mL_tree 4 := ⟨rfl, (zt6 56 rfl rfl), (zt1 0 rfl rfl), (zt6 58 rfl rfl), by decide +kernel, by decide, (zt6 57 rfl rfl)⟩
theorem lsh_L_173 : zLSH RL 173 mL_meet 4 := ⟨rfl, (zt6 64 rfl rfl), (zt1 0 rfl rfl), (zt6 66 rfl rfl), by decide +kernel, by decide, (zt6 65 rfl rfl)⟩
theorem lsh_L_176 : zLSH RL 176 mL_dear 3 := ⟨rfl, (zt6 71 rfl rfl), (zt1 0 rfl rfl), (zt6 73 rfl rfl), by decide +kernel, by decide, (zt6 72 rfl rfl)⟩
theorem lsh_L_179 : zLSH RL 179 mL_shed 3 := ⟨rfl, (zt6 78 rfl rfl), (zt1 0 rfl rfl), (zt6 80 rfl rfl), by decide +kernel, by decide, (zt6 79 rfl rfl)⟩
theorem lsh_L_182 : zLSH RL 182 mL_fits 3 := ⟨rfl, (zt6 86 rfl rfl), (zt1 0 rfl rfl), (zt6 88 rfl rfl), by decide +kernel, by decide, (zt6 87 rfl rfl)⟩
theorem lsh_L_185 : zLSH RL 185 mL_look 3 := ⟨rfl, (zt6 105 rfl rfl), (zt1 0 rfl rfl), (zt6 107 rfl rfl), by decide +kernel, by decide, (zt6 106 rfl rfl)⟩
theorem lsh_L_188 : zLSH RL 188 mL_crowd 3 := ⟨rfl, (zt6 122 rfl rfl), (zt1 0 rfl rfl), (zt6 124 rfl rfl), by decide +kernel, by decide, (zt6 123 rfl rfl)⟩
theorem lsh_L_191 : zLSH RL 191 mL_tight 3 := ⟨rfl, (zt6 129 rfl rfl), (zt1 0 rfl rfl), (zt6 131 rfl rfl), by decide +kernel, by decide, (zt6 130 rfl rfl)⟩
theorem lsh_L_194 : zLSH RL 194 mL_season 6 := ⟨rfl, (zt6 136 rfl rfl), (zt1 0 rfl rfl), (zt6 138 rfl rfl), by decide +kernel, by decide, (zt6 137 rfl rfl)⟩
theorem lsh_L_198 : zLSH RL 198 mL_span 8 := ⟨rfl, (zt6 159 rfl rfl), (zt1 0 rfl rfl), (zt6 161 rfl rfl), by decide +kernel, by decide, (zt6 160 rfl rfl)⟩
abbrev mL_law_ : zM := (RL, yL_law_, cL_law_, 7, some .boolean, [])
