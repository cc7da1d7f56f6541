/-! ===== the law's body, case by case ===== -/
section ZLaw
variable {l : Launch} {Xi : zXi} {I : zI} {g : zG} {kc ks : Nat} {post : zR → zH → Prop}
theorem m_thrown {d : Nat} (hl : l.stackTraces = false) (hd : 1 ≤ d) (hs : zSt g) : zD l Xi mX13_thrown d [.ref 74] I g (some (.int (I 74 0))) I := by
  refine zC_of hl rfl rfl rfl (Nat.le_of_ble_eq_true rfl) (zav_r (zSt_ob hs 74 13 rfl).1 zav_0) ?_
  refine zJ_aload_n dX13_thrown_0 rfl ?_
  refine zP_geti lf_X13_107 (zSt_ob hs 74 13 rfl) rfl dX13_thrown_1 ?_
  exact zJ_iret rfl dX13_thrown_4 ⟨rfl, rfl⟩
theorem lg_same (x : Int64) : lg_cmp x x = 0 := by
  unfold lg_cmp
  rw [if_neg (Int64.lt_irrefl), if_pos rfl]
abbrev lL (n : Nat) (a b : Option Value) : List (Option Value) := [some (.ref zB), some (.ref 0), some (.ref 74), some (.ref 642), some (.int (nI (9 * n))), a, b]
/-- what is behind a case -/
def lvK (l : Launch) (Xi : zXi) (kc ks n : Nat) (post : zR → zH → Prop) : Prop := ∀ h2 S1, lvI (n + 1) h2 S1 → zJ l Xi mL_law_ 60 kc ks 2132 (lL n none none) [] h2 post
/-- the j-th int of the script behind the n-th call -/
def ag (Xi : zXi) (n j : Nat) : Int32 := Xi.2 (nI (9 * n) + nI j).toNatClampNeg
theorem ag_in {n j : Nat} (hi : 9 * n + 9 ≤ Xi.1) (hx : Xi.1 ≤ 4608) (hj : j < 9) : vp_in (nI (9 * n) + nI j) Xi.1 := by
  rw [nI_add]
  exact vp_in_nI (by omega) (by omega)
theorem sx_ag {pc n j : Nat} {M : zM} {d : Nat} {Ls : List (Option Value)} {S : List Value} {h : zH} (hi : 9 * n + 9 ≤ Xi.1) (hx : Xi.1 ≤ 4608) (hj : j < 9) (hd : decode M.2.2.1 pc = .ok (.iaload, 1)) (kk : zJ l Xi M d kc ks (pc + 1) Ls (.int (ag Xi n j) :: S) h post) : zJ l Xi M d kc ks pc Ls (.int (nI (9 * n) + nI j) :: .ref zB :: S) h post := zJ_sld (ag_in hi hx hj) hd kk
theorem cs_feed (hl : l.stackTraces = false) {n : Nat} {S : sT} (hh : lvI n (I, g) S) (hn : n ≤ 520) (hi : 9 * n + 9 ≤ Xi.1) (hx : Xi.1 ≤ 4608) (kk : lvK l Xi kc ks n post) : zJ l Xi mL_law_ 60 (kc + 7) (ks + 600) 188 (lL n none none) [] (I, g) post := by
  refine zJ_aload_n dL_law__188 rfl ?_
  refine zJ_aload_n dL_law__189 rfl ?_
  refine zJ_iload dL_law__190 rfl ?_
  refine zJ_iconst (v := nI 1) dL_law__192 rfl ?_
  refine zJ_iadd dL_law__193 ?_
  refine sx_ag (n := n) (j := 1) hi hx (by omega) dL_law__194 ?_
  refine zJ_aload_n dL_law__195 rfl ?_
  refine zJ_iload dL_law__196 rfl ?_
  refine zJ_iconst (v := nI 2) dL_law__198 rfl ?_
  refine zJ_iadd dL_law__199 ?_
  refine sx_ag (n := n) (j := 2) hi hx (by omega) dL_law__200 ?_
  refine zJ_aload_n dL_law__201 rfl ?_
  refine zJ_iload dL_law__202 rfl ?_
  refine zJ_iconst (v := nI 3) dL_law__204 rfl ?_
  refine zJ_iadd dL_law__205 ?_
  refine sx_ag (n := n) (j := 3) hi hx (by omega) dL_law__206 ?_
  refine zJ_aload_n dL_law__207 rfl ?_
  refine zJ_iload dL_law__208 rfl ?_
  refine zJ_iconst (v := nI 4) dL_law__210 rfl ?_
  refine zJ_iadd dL_law__211 ?_
  refine sx_ag (n := n) (j := 4) hi hx (by omega) dL_law__212 ?_
  refine zJ_aload_n dL_law__213 rfl ?_
  refine zJ_iload dL_law__214 rfl ?_
  refine zJ_iconst (v := nI 5) dL_law__216 rfl ?_
  refine zJ_iadd dL_law__217 ?_
  refine sx_ag (n := n) (j := 5) hi hx (by omega) dL_law__218 ?_
  obtain ⟨kc', ks', q1, q2, hC⟩ := p_feed (Xi := Xi) hl hh hn (a1 := ag Xi n 1) (a2 := ag Xi n 2) (a3 := ag Xi n 3) (a4 := ag Xi n 4) (a5 := ag Xi n 5)
  refine zJ_wid (kc := kc + kc') (ks := ks + ks') (by omega) (by omega) (zJ_callV [.int (ag Xi n 1), .int (ag Xi n 2), .int (ag Xi n 3), .int (ag Xi n 4), .int (ag Xi n 5)] [] lv_L_98 hC (zSt_ob hh.1 0 12 rfl).1 (zSt_ob hh.1 0 12 rfl).2 rfl (by omega) (Nat.le_of_ble_eq_true rfl) rfl dL_law__219 (fun E h1 q _ => by obtain ⟨_, z, _⟩ := q; cases z) (fun r h1 q _ => ?_))
  obtain ⟨v, q3, q5, hR⟩ := q
  cases q3
  refine zJ_aload_n dL_law__222 rfl ?_
  refine zJ_aload_n dL_law__223 rfl ?_
  refine zJ_iload dL_law__224 rfl ?_
  refine zJ_iconst (v := nI 1) dL_law__226 rfl ?_
  refine zJ_iadd dL_law__227 ?_
  refine sx_ag (n := n) (j := 1) hi hx (by omega) dL_law__228 ?_
  refine zJ_aload_n dL_law__229 rfl ?_
  refine zJ_iload dL_law__230 rfl ?_
  refine zJ_iconst (v := nI 2) dL_law__232 rfl ?_
  refine zJ_iadd dL_law__233 ?_
  refine sx_ag (n := n) (j := 2) hi hx (by omega) dL_law__234 ?_
  refine zJ_aload_n dL_law__235 rfl ?_
  refine zJ_iload dL_law__236 rfl ?_
  refine zJ_iconst (v := nI 3) dL_law__238 rfl ?_
  refine zJ_iadd dL_law__239 ?_
  refine sx_ag (n := n) (j := 3) hi hx (by omega) dL_law__240 ?_
  refine zJ_aload_n dL_law__241 rfl ?_
  refine zJ_iload dL_law__242 rfl ?_
  refine zJ_iconst (v := nI 4) dL_law__244 rfl ?_
  refine zJ_iadd dL_law__245 ?_
  refine sx_ag (n := n) (j := 4) hi hx (by omega) dL_law__246 ?_
  refine zJ_aload_n dL_law__247 rfl ?_
  refine zJ_iload dL_law__248 rfl ?_
  refine zJ_iconst (v := nI 5) dL_law__250 rfl ?_
  refine zJ_iadd dL_law__251 ?_
  refine sx_ag (n := n) (j := 5) hi hx (by omega) dL_law__252 ?_
  refine zJ_wid (kc := kc + 0) (ks := ks + 0) (by omega) (by omega) (zJ_callV [.int (ag Xi n 1), .int (ag Xi n 2), .int (ag Xi n 3), .int (ag Xi n 4), .int (ag Xi n 5)] [.int v] lv_L_102 hR (zSt_ob q5 74 13 rfl).1 (zSt_ob q5 74 13 rfl).2 rfl (by omega) (Nat.le_of_ble_eq_true rfl) rfl dL_law__253 (fun E h1 q _ => by obtain ⟨z, _⟩ := q; cases z) (fun r h2 q _ => ?_))
  obtain ⟨q7, S1, q11⟩ := q
  cases q7
  exact zJ_icmp_eq 2132 dL_law__256 (by decide) (fun _ => zJ_back (zle_r (zle_r (zle_r (zle_r (zle_r (zle_n (zle_n zle_0))))))) rfl (kk h2 S1 q11)) (fun z => absurd rfl z)
theorem cs_board (hl : l.stackTraces = false) {n : Nat} {S : sT} (hh : lvI n (I, g) S) (hn : n ≤ 520) (hi : 9 * n + 9 ≤ Xi.1) (hx : Xi.1 ≤ 4608) (kk : lvK l Xi kc ks n post) : zJ l Xi mL_law_ 60 (kc + 7) (ks + 600) 261 (lL n none none) [] (I, g) post := by
  refine zJ_aload_n dL_law__261 rfl ?_
  refine zJ_aload_n dL_law__262 rfl ?_
  refine zJ_iload dL_law__263 rfl ?_
  refine zJ_iconst (v := nI 1) dL_law__265 rfl ?_
  refine zJ_iadd dL_law__266 ?_
  refine sx_ag (n := n) (j := 1) hi hx (by omega) dL_law__267 ?_
  refine zJ_aload_n dL_law__268 rfl ?_
  obtain ⟨kc', ks', q1, q2, hC⟩ := p_board (Xi := Xi) hl hh hn (a1 := ag Xi n 1)
  refine zJ_wid (kc := kc + kc') (ks := ks + ks') (by omega) (by omega) (zJ_callSH [.ref 0, .int (ag Xi n 1), .ref 642] [] lsh_L_103 hC rfl (by omega) (Nat.le_of_ble_eq_true rfl) rfl dL_law__269 (fun E h1 q _ => by obtain ⟨_, _, z, _⟩ := q; cases z) (fun r h1 q _ => ?_))
  obtain ⟨code, v, q3, ⟨q4, q5, q6⟩, hR⟩ := q
  cases q3
  refine zJ_istore dL_law__272 (Nat.le_of_ble_eq_true rfl) (by decide) ?_
  refine zJ_aload_n dL_law__274 rfl ?_
  refine zJ_aload_n dL_law__275 rfl ?_
  refine zJ_iload dL_law__276 rfl ?_
  refine zJ_iconst (v := nI 1) dL_law__278 rfl ?_
  refine zJ_iadd dL_law__279 ?_
  refine sx_ag (n := n) (j := 1) hi hx (by omega) dL_law__280 ?_
  refine zJ_wid (kc := kc + 0) (ks := ks + 0) (by omega) (by omega) (zJ_callV [.int (ag Xi n 1)] [] lv_L_108 hR (zSt_ob q5 74 13 rfl).1 (zSt_ob q5 74 13 rfl).2 rfl (by omega) (Nat.le_of_ble_eq_true rfl) rfl dL_law__281 (fun E h1 q _ => by obtain ⟨_, z, _⟩ := q; cases z) (fun r h2 q _ => ?_))
  obtain ⟨b, q7, q8, q9, q10, S1, q11⟩ := q
  cases q7
  refine zJ_istore dL_law__284 (Nat.le_of_ble_eq_true rfl) (by decide) ?_
  refine zJ_aload_n dL_law__286 rfl ?_
  refine zJ_wid (kc := kc + 0) (ks := ks + 0) (by omega) (by omega) (zJ_callV [] [] lv_L_109 (m_thrown (d := 50) (I := h2.1) (g := h2.2) hl (by omega) q11.1) (zSt_ob q11.1 74 13 rfl).1 (zSt_ob q11.1 74 13 rfl).2 rfl (by omega) (Nat.le_of_ble_eq_true rfl) rfl dL_law__287 (fun E h1 q _ => by cases q.1) (fun r h3 q _ => ?_))
  obtain ⟨y1, y2⟩ := q
  cases y1
  subst y2
  refine zJ_iload dL_law__290 rfl ?_
  refine zJ_icmp_eq 297 dL_law__292 (by decide) (fun _ => ?_) (fun z => absurd q10 z)
  refine zJ_iload dL_law__297 rfl ?_
  refine zJ_if_ne 314 dL_law__299 (by decide) (fun _ => (zJ_goto 2132 dL_law__314 (by decide) (zJ_back (zle_r (zle_r (zle_r (zle_r (zle_r (zle_n (zle_n zle_0))))))) rfl (kk h2 S1 q11)))) (fun z0 => ?_)
  refine zJ_aload_n dL_law__302 rfl ?_
  refine zJ_iconst (v := nI 0) dL_law__303 rfl ?_
  refine zJ_lald (a := 642) q11.2.1.1 q11.2.1.2 (vp_in_nI (n := 0) (by omega) (by omega)) dL_law__304 ?_
  refine zJ_iload dL_law__305 rfl ?_
  refine zJ_i2l dL_law__307 ?_
  refine zJ_lcmp dL_law__308 ?_
  have eL : h2.2.2.2.2 642 (nI 0).toNatClampNeg = v.toInt64 := by
    rw [q9]
    exact q6 z0
  refine zJ_if_eq 314 dL_law__309 (by decide) (fun _ => (zJ_goto 2132 dL_law__314 (by decide) (zJ_back (zle_r (zle_r (zle_r (zle_r (zle_r (zle_n (zle_n zle_0))))))) rfl (kk h2 S1 q11)))) (fun z => absurd (by rw [eL, q8 z0]; exact lg_same _) z)
theorem cs_law (hl : l.stackTraces = false) {n : Nat} {S : sT} (hh : lvI n (I, g) S) (hn : n ≤ 520) (hi : 9 * n + 9 ≤ Xi.1) (hx : Xi.1 ≤ 4608) (kk : lvK l Xi kc ks n post) : zJ l Xi mL_law_ 60 (kc + 7) (ks + 600) 317 (lL n none none) [] (I, g) post := by
  refine zJ_aload_n dL_law__317 rfl ?_
  refine zJ_aload_n dL_law__318 rfl ?_
  refine zJ_iload dL_law__319 rfl ?_
  refine zJ_iconst (v := nI 1) dL_law__321 rfl ?_
  refine zJ_iadd dL_law__322 ?_
  refine sx_ag (n := n) (j := 1) hi hx (by omega) dL_law__323 ?_
  refine zJ_aload_n dL_law__324 rfl ?_
  obtain ⟨kc', ks', q1, q2, hC⟩ := p_law (Xi := Xi) hl hh hn (a1 := ag Xi n 1)
  refine zJ_wid (kc := kc + kc') (ks := ks + ks') (by omega) (by omega) (zJ_callSH [.ref 0, .int (ag Xi n 1), .ref 642] [] lsh_L_113 hC rfl (by omega) (Nat.le_of_ble_eq_true rfl) rfl dL_law__325 (fun E h1 q _ => by obtain ⟨_, _, z, _⟩ := q; cases z) (fun r h1 q _ => ?_))
  obtain ⟨code, v, q3, ⟨q4, q5, q6⟩, hR⟩ := q
  cases q3
  refine zJ_istore dL_law__328 (Nat.le_of_ble_eq_true rfl) (by decide) ?_
  refine zJ_aload_n dL_law__330 rfl ?_
  refine zJ_aload_n dL_law__331 rfl ?_
  refine zJ_iload dL_law__332 rfl ?_
  refine zJ_iconst (v := nI 1) dL_law__334 rfl ?_
  refine zJ_iadd dL_law__335 ?_
  refine sx_ag (n := n) (j := 1) hi hx (by omega) dL_law__336 ?_
  refine zJ_wid (kc := kc + 0) (ks := ks + 0) (by omega) (by omega) (zJ_callV [.int (ag Xi n 1)] [] lv_L_115 hR (zSt_ob q5 74 13 rfl).1 (zSt_ob q5 74 13 rfl).2 rfl (by omega) (Nat.le_of_ble_eq_true rfl) rfl dL_law__337 (fun E h1 q _ => by obtain ⟨_, z, _⟩ := q; cases z) (fun r h2 q _ => ?_))
  obtain ⟨b, q7, q8, q9, q10, S1, q11⟩ := q
  cases q7
  refine zJ_istore dL_law__340 (Nat.le_of_ble_eq_true rfl) (by decide) ?_
  refine zJ_aload_n dL_law__342 rfl ?_
  refine zJ_wid (kc := kc + 0) (ks := ks + 0) (by omega) (by omega) (zJ_callV [] [] lv_L_109 (m_thrown (d := 50) (I := h2.1) (g := h2.2) hl (by omega) q11.1) (zSt_ob q11.1 74 13 rfl).1 (zSt_ob q11.1 74 13 rfl).2 rfl (by omega) (Nat.le_of_ble_eq_true rfl) rfl dL_law__343 (fun E h1 q _ => by cases q.1) (fun r h3 q _ => ?_))
  obtain ⟨y1, y2⟩ := q
  cases y1
  subst y2
  refine zJ_iload dL_law__346 rfl ?_
  refine zJ_icmp_eq 353 dL_law__348 (by decide) (fun _ => ?_) (fun z => absurd q10 z)
  refine zJ_iload dL_law__353 rfl ?_
  refine zJ_if_ne 370 dL_law__355 (by decide) (fun _ => (zJ_goto 2132 dL_law__370 (by decide) (zJ_back (zle_r (zle_r (zle_r (zle_r (zle_r (zle_n (zle_n zle_0))))))) rfl (kk h2 S1 q11)))) (fun z0 => ?_)
  refine zJ_aload_n dL_law__358 rfl ?_
  refine zJ_iconst (v := nI 0) dL_law__359 rfl ?_
  refine zJ_lald (a := 642) q11.2.1.1 q11.2.1.2 (vp_in_nI (n := 0) (by omega) (by omega)) dL_law__360 ?_
  refine zJ_iload dL_law__361 rfl ?_
  refine zJ_i2l dL_law__363 ?_
  refine zJ_lcmp dL_law__364 ?_
  have eL : h2.2.2.2.2 642 (nI 0).toNatClampNeg = v.toInt64 := by
    rw [q9]
    exact q6 z0
  refine zJ_if_eq 370 dL_law__365 (by decide) (fun _ => (zJ_goto 2132 dL_law__370 (by decide) (zJ_back (zle_r (zle_r (zle_r (zle_r (zle_r (zle_n (zle_n zle_0))))))) rfl (kk h2 S1 q11)))) (fun z => absurd (by rw [eL, q8 z0]; exact lg_same _) z)
theorem cs_work (hl : l.stackTraces = false) {n : Nat} {S : sT} (hh : lvI n (I, g) S) (hn : n ≤ 520) (hi : 9 * n + 9 ≤ Xi.1) (hx : Xi.1 ≤ 4608) (kk : lvK l Xi kc ks n post) : zJ l Xi mL_law_ 60 (kc + 7) (ks + 600) 373 (lL n none none) [] (I, g) post := by
  refine zJ_aload_n dL_law__373 rfl ?_
  refine zJ_aload_n dL_law__374 rfl ?_
  refine zJ_iload dL_law__375 rfl ?_
  refine zJ_iconst (v := nI 1) dL_law__377 rfl ?_
  refine zJ_iadd dL_law__378 ?_
  refine sx_ag (n := n) (j := 1) hi hx (by omega) dL_law__379 ?_
  refine zJ_aload_n dL_law__380 rfl ?_
  obtain ⟨kc', ks', q1, q2, hC⟩ := p_work (Xi := Xi) hl hh hn (a1 := ag Xi n 1)
  refine zJ_wid (kc := kc + kc') (ks := ks + ks') (by omega) (by omega) (zJ_callSH [.ref 0, .int (ag Xi n 1), .ref 642] [] lsh_L_116 hC rfl (by omega) (Nat.le_of_ble_eq_true rfl) rfl dL_law__381 (fun E h1 q _ => by obtain ⟨_, _, z, _⟩ := q; cases z) (fun r h1 q _ => ?_))
  obtain ⟨code, v, q3, ⟨q4, q5, q6⟩, hR⟩ := q
  cases q3
  refine zJ_istore dL_law__384 (Nat.le_of_ble_eq_true rfl) (by decide) ?_
  refine zJ_aload_n dL_law__386 rfl ?_
  refine zJ_aload_n dL_law__387 rfl ?_
  refine zJ_iload dL_law__388 rfl ?_
  refine zJ_iconst (v := nI 1) dL_law__390 rfl ?_
  refine zJ_iadd dL_law__391 ?_
  refine sx_ag (n := n) (j := 1) hi hx (by omega) dL_law__392 ?_
  refine zJ_wid (kc := kc + 0) (ks := ks + 0) (by omega) (by omega) (zJ_callV [.int (ag Xi n 1)] [] lv_L_118 hR (zSt_ob q5 74 13 rfl).1 (zSt_ob q5 74 13 rfl).2 rfl (by omega) (Nat.le_of_ble_eq_true rfl) rfl dL_law__393 (fun E h1 q _ => by obtain ⟨_, z, _⟩ := q; cases z) (fun r h2 q _ => ?_))
  obtain ⟨b, q7, q8, q9, q10, S1, q11⟩ := q
  cases q7
  refine zJ_istore dL_law__396 (Nat.le_of_ble_eq_true rfl) (by decide) ?_
  refine zJ_aload_n dL_law__398 rfl ?_
  refine zJ_wid (kc := kc + 0) (ks := ks + 0) (by omega) (by omega) (zJ_callV [] [] lv_L_109 (m_thrown (d := 50) (I := h2.1) (g := h2.2) hl (by omega) q11.1) (zSt_ob q11.1 74 13 rfl).1 (zSt_ob q11.1 74 13 rfl).2 rfl (by omega) (Nat.le_of_ble_eq_true rfl) rfl dL_law__399 (fun E h1 q _ => by cases q.1) (fun r h3 q _ => ?_))
  obtain ⟨y1, y2⟩ := q
  cases y1
  subst y2
  refine zJ_iload dL_law__402 rfl ?_
  refine zJ_icmp_eq 409 dL_law__404 (by decide) (fun _ => ?_) (fun z => absurd q10 z)
  refine zJ_iload dL_law__409 rfl ?_
  refine zJ_if_ne 426 dL_law__411 (by decide) (fun _ => (zJ_goto 2132 dL_law__426 (by decide) (zJ_back (zle_r (zle_r (zle_r (zle_r (zle_r (zle_n (zle_n zle_0))))))) rfl (kk h2 S1 q11)))) (fun z0 => ?_)
  refine zJ_aload_n dL_law__414 rfl ?_
  refine zJ_iconst (v := nI 0) dL_law__415 rfl ?_
  refine zJ_lald (a := 642) q11.2.1.1 q11.2.1.2 (vp_in_nI (n := 0) (by omega) (by omega)) dL_law__416 ?_
  refine zJ_iload dL_law__417 rfl ?_
  refine zJ_i2l dL_law__419 ?_
  refine zJ_lcmp dL_law__420 ?_
  have eL : h2.2.2.2.2 642 (nI 0).toNatClampNeg = v.toInt64 := by
    rw [q9]
    exact q6 z0
  refine zJ_if_eq 426 dL_law__421 (by decide) (fun _ => (zJ_goto 2132 dL_law__426 (by decide) (zJ_back (zle_r (zle_r (zle_r (zle_r (zle_r (zle_n (zle_n zle_0))))))) rfl (kk h2 S1 q11)))) (fun z => absurd (by rw [eL, q8 z0]; exact lg_same _) z)
theorem cs_book (hl : l.stackTraces = false) {n : Nat} {S : sT} (hh : lvI n (I, g) S) (hn : n ≤ 520) (hi : 9 * n + 9 ≤ Xi.1) (hx : Xi.1 ≤ 4608) (kk : lvK l Xi kc ks n post) : zJ l Xi mL_law_ 60 (kc + 7) (ks + 600) 429 (lL n none none) [] (I, g) post := by
  refine zJ_aload_n dL_law__429 rfl ?_
  refine zJ_aload_n dL_law__430 rfl ?_
  refine zJ_iload dL_law__431 rfl ?_
  refine zJ_iconst (v := nI 1) dL_law__433 rfl ?_
  refine zJ_iadd dL_law__434 ?_
  refine sx_ag (n := n) (j := 1) hi hx (by omega) dL_law__435 ?_
  refine zJ_aload_n dL_law__436 rfl ?_
  obtain ⟨kc', ks', q1, q2, hC⟩ := p_book (Xi := Xi) hl hh hn (a1 := ag Xi n 1)
  refine zJ_wid (kc := kc + kc') (ks := ks + ks') (by omega) (by omega) (zJ_callSH [.ref 0, .int (ag Xi n 1), .ref 642] [] lsh_L_119 hC rfl (by omega) (Nat.le_of_ble_eq_true rfl) rfl dL_law__437 (fun E h1 q _ => by obtain ⟨_, _, z, _⟩ := q; cases z) (fun r h1 q _ => ?_))
  obtain ⟨code, v, q3, ⟨q4, q5, q6⟩, hR⟩ := q
  cases q3
  refine zJ_istore dL_law__440 (Nat.le_of_ble_eq_true rfl) (by decide) ?_
  refine zJ_aload_n dL_law__442 rfl ?_
  refine zJ_aload_n dL_law__443 rfl ?_
  refine zJ_iload dL_law__444 rfl ?_
  refine zJ_iconst (v := nI 1) dL_law__446 rfl ?_
  refine zJ_iadd dL_law__447 ?_
  refine sx_ag (n := n) (j := 1) hi hx (by omega) dL_law__448 ?_
  refine zJ_wid (kc := kc + 0) (ks := ks + 0) (by omega) (by omega) (zJ_callV [.int (ag Xi n 1)] [] lv_L_121 hR (zSt_ob q5 74 13 rfl).1 (zSt_ob q5 74 13 rfl).2 rfl (by omega) (Nat.le_of_ble_eq_true rfl) rfl dL_law__449 (fun E h1 q _ => by obtain ⟨_, z, _⟩ := q; cases z) (fun r h2 q _ => ?_))
  obtain ⟨b, q7, q8, q9, q10, S1, q11⟩ := q
  cases q7
  refine zJ_istore dL_law__452 (Nat.le_of_ble_eq_true rfl) (by decide) ?_
  refine zJ_aload_n dL_law__454 rfl ?_
  refine zJ_wid (kc := kc + 0) (ks := ks + 0) (by omega) (by omega) (zJ_callV [] [] lv_L_109 (m_thrown (d := 50) (I := h2.1) (g := h2.2) hl (by omega) q11.1) (zSt_ob q11.1 74 13 rfl).1 (zSt_ob q11.1 74 13 rfl).2 rfl (by omega) (Nat.le_of_ble_eq_true rfl) rfl dL_law__455 (fun E h1 q _ => by cases q.1) (fun r h3 q _ => ?_))
  obtain ⟨y1, y2⟩ := q
  cases y1
  subst y2
  refine zJ_iload dL_law__458 rfl ?_
  refine zJ_icmp_eq 465 dL_law__460 (by decide) (fun _ => ?_) (fun z => absurd q10 z)
  refine zJ_iload dL_law__465 rfl ?_
  refine zJ_if_ne 482 dL_law__467 (by decide) (fun _ => (zJ_goto 2132 dL_law__482 (by decide) (zJ_back (zle_r (zle_r (zle_r (zle_r (zle_r (zle_n (zle_n zle_0))))))) rfl (kk h2 S1 q11)))) (fun z0 => ?_)
  refine zJ_aload_n dL_law__470 rfl ?_
  refine zJ_iconst (v := nI 0) dL_law__471 rfl ?_
  refine zJ_lald (a := 642) q11.2.1.1 q11.2.1.2 (vp_in_nI (n := 0) (by omega) (by omega)) dL_law__472 ?_
  refine zJ_iload dL_law__473 rfl ?_
  refine zJ_i2l dL_law__475 ?_
  refine zJ_lcmp dL_law__476 ?_
  have eL : h2.2.2.2.2 642 (nI 0).toNatClampNeg = v.toInt64 := by
    rw [q9]
    exact q6 z0
  refine zJ_if_eq 482 dL_law__477 (by decide) (fun _ => (zJ_goto 2132 dL_law__482 (by decide) (zJ_back (zle_r (zle_r (zle_r (zle_r (zle_r (zle_n (zle_n zle_0))))))) rfl (kk h2 S1 q11)))) (fun z => absurd (by rw [eL, q8 z0]; exact lg_same _) z)
theorem cs_fault (hl : l.stackTraces = false) {n : Nat} {S : sT} (hh : lvI n (I, g) S) (hn : n ≤ 520) (hi : 9 * n + 9 ≤ Xi.1) (hx : Xi.1 ≤ 4608) (kk : lvK l Xi kc ks n post) : zJ l Xi mL_law_ 60 (kc + 7) (ks + 600) 485 (lL n none none) [] (I, g) post := by
  refine zJ_aload_n dL_law__485 rfl ?_
  obtain ⟨kc', ks', q1, q2, hC⟩ := p_fault (Xi := Xi) hl hh hn
  refine zJ_wid (kc := kc + kc') (ks := ks + ks') (by omega) (by omega) (zJ_callV [] [] lv_L_122 hC (zSt_ob hh.1 0 12 rfl).1 (zSt_ob hh.1 0 12 rfl).2 rfl (by omega) (Nat.le_of_ble_eq_true rfl) rfl dL_law__486 (fun E h1 q _ => by obtain ⟨_, z, _⟩ := q; cases z) (fun r h1 q _ => ?_))
  obtain ⟨v, q3, q5, hR⟩ := q
  cases q3
  refine zJ_aload_n dL_law__489 rfl ?_
  refine zJ_wid (kc := kc + 0) (ks := ks + 0) (by omega) (by omega) (zJ_callV [] [.int v] lv_L_125 hR (zSt_ob q5 74 13 rfl).1 (zSt_ob q5 74 13 rfl).2 rfl (by omega) (Nat.le_of_ble_eq_true rfl) rfl dL_law__490 (fun E h1 q _ => by obtain ⟨z, _⟩ := q; cases z) (fun r h2 q _ => ?_))
  obtain ⟨q7, S1, q11⟩ := q
  cases q7
  exact zJ_icmp_eq 2132 dL_law__493 (by decide) (fun _ => zJ_back (zle_r (zle_r (zle_r (zle_r (zle_r (zle_n (zle_n zle_0))))))) rfl (kk h2 S1 q11)) (fun z => absurd rfl z)
theorem cs_undo (hl : l.stackTraces = false) {n : Nat} {S : sT} (hh : lvI n (I, g) S) (hn : n ≤ 520) (hi : 9 * n + 9 ≤ Xi.1) (hx : Xi.1 ≤ 4608) (kk : lvK l Xi kc ks n post) : zJ l Xi mL_law_ 60 (kc + 7) (ks + 600) 498 (lL n none none) [] (I, g) post := by
  refine zJ_aload_n dL_law__498 rfl ?_
  obtain ⟨kc', ks', q1, q2, hC⟩ := p_undo (Xi := Xi) hl hh hn
  refine zJ_wid (kc := kc + kc') (ks := ks + ks') (by omega) (by omega) (zJ_callV [] [] lv_L_126 hC (zSt_ob hh.1 0 12 rfl).1 (zSt_ob hh.1 0 12 rfl).2 rfl (by omega) (Nat.le_of_ble_eq_true rfl) rfl dL_law__499 (fun E h1 q _ => by obtain ⟨_, z, _⟩ := q; cases z) (fun r h1 q _ => ?_))
  obtain ⟨v, q3, q5, hR⟩ := q
  cases q3
  refine zJ_aload_n dL_law__502 rfl ?_
  refine zJ_wid (kc := kc + 0) (ks := ks + 0) (by omega) (by omega) (zJ_callV [] [.int v] lv_L_129 hR (zSt_ob q5 74 13 rfl).1 (zSt_ob q5 74 13 rfl).2 rfl (by omega) (Nat.le_of_ble_eq_true rfl) rfl dL_law__503 (fun E h1 q _ => by obtain ⟨z, _⟩ := q; cases z) (fun r h2 q _ => ?_))
  obtain ⟨q7, S1, q11⟩ := q
  cases q7
  exact zJ_icmp_eq 2132 dL_law__506 (by decide) (fun _ => zJ_back (zle_r (zle_r (zle_r (zle_r (zle_r (zle_n (zle_n zle_0))))))) rfl (kk h2 S1 q11)) (fun z => absurd rfl z)
theorem cs_told (hl : l.stackTraces = false) {n : Nat} {S : sT} (hh : lvI n (I, g) S) (hn : n ≤ 520) (hi : 9 * n + 9 ≤ Xi.1) (hx : Xi.1 ≤ 4608) (kk : lvK l Xi kc ks n post) : zJ l Xi mL_law_ 60 (kc + 7) (ks + 600) 511 (lL n none none) [] (I, g) post := by
  refine zJ_aload_n dL_law__511 rfl ?_
  refine zJ_aload_n dL_law__512 rfl ?_
  refine zJ_iload dL_law__513 rfl ?_
  refine zJ_iconst (v := nI 1) dL_law__515 rfl ?_
  refine zJ_iadd dL_law__516 ?_
  refine sx_ag (n := n) (j := 1) hi hx (by omega) dL_law__517 ?_
  refine zJ_aload_n dL_law__518 rfl ?_
  obtain ⟨kc', ks', q1, q2, hC⟩ := p_told (Xi := Xi) hl hh hn (a1 := ag Xi n 1)
  refine zJ_wid (kc := kc + kc') (ks := ks + ks') (by omega) (by omega) (zJ_callSH [.ref 0, .int (ag Xi n 1), .ref 642] [] lsh_L_130 hC rfl (by omega) (Nat.le_of_ble_eq_true rfl) rfl dL_law__519 (fun E h1 q _ => by obtain ⟨_, _, z, _⟩ := q; cases z) (fun r h1 q _ => ?_))
  obtain ⟨code, v, q3, ⟨q4, q5, q6⟩, hR⟩ := q
  cases q3
  refine zJ_istore dL_law__522 (Nat.le_of_ble_eq_true rfl) (by decide) ?_
  refine zJ_aload_n dL_law__524 rfl ?_
  refine zJ_aload_n dL_law__525 rfl ?_
  refine zJ_iload dL_law__526 rfl ?_
  refine zJ_iconst (v := nI 1) dL_law__528 rfl ?_
  refine zJ_iadd dL_law__529 ?_
  refine sx_ag (n := n) (j := 1) hi hx (by omega) dL_law__530 ?_
  refine zJ_wid (kc := kc + 0) (ks := ks + 0) (by omega) (by omega) (zJ_callV [.int (ag Xi n 1)] [] lv_L_132 hR (zSt_ob q5 74 13 rfl).1 (zSt_ob q5 74 13 rfl).2 rfl (by omega) (Nat.le_of_ble_eq_true rfl) rfl dL_law__531 (fun E h1 q _ => by obtain ⟨_, z, _⟩ := q; cases z) (fun r h2 q _ => ?_))
  obtain ⟨b, q7, q8, q9, q10, S1, q11⟩ := q
  cases q7
  refine zJ_istore dL_law__534 (Nat.le_of_ble_eq_true rfl) (by decide) ?_
  refine zJ_aload_n dL_law__536 rfl ?_
  refine zJ_wid (kc := kc + 0) (ks := ks + 0) (by omega) (by omega) (zJ_callV [] [] lv_L_109 (m_thrown (d := 50) (I := h2.1) (g := h2.2) hl (by omega) q11.1) (zSt_ob q11.1 74 13 rfl).1 (zSt_ob q11.1 74 13 rfl).2 rfl (by omega) (Nat.le_of_ble_eq_true rfl) rfl dL_law__537 (fun E h1 q _ => by cases q.1) (fun r h3 q _ => ?_))
  obtain ⟨y1, y2⟩ := q
  cases y1
  subst y2
  refine zJ_iload dL_law__540 rfl ?_
  refine zJ_icmp_eq 547 dL_law__542 (by decide) (fun _ => ?_) (fun z => absurd q10 z)
  refine zJ_iload dL_law__547 rfl ?_
  refine zJ_if_ne 564 dL_law__549 (by decide) (fun _ => (zJ_goto 2132 dL_law__564 (by decide) (zJ_back (zle_r (zle_r (zle_r (zle_r (zle_r (zle_n (zle_n zle_0))))))) rfl (kk h2 S1 q11)))) (fun z0 => ?_)
  refine zJ_aload_n dL_law__552 rfl ?_
  refine zJ_iconst (v := nI 0) dL_law__553 rfl ?_
  refine zJ_lald (a := 642) q11.2.1.1 q11.2.1.2 (vp_in_nI (n := 0) (by omega) (by omega)) dL_law__554 ?_
  refine zJ_iload dL_law__555 rfl ?_
  refine zJ_i2l dL_law__557 ?_
  refine zJ_lcmp dL_law__558 ?_
  have eL : h2.2.2.2.2 642 (nI 0).toNatClampNeg = v.toInt64 := by
    rw [q9]
    exact q6 z0
  refine zJ_if_eq 564 dL_law__559 (by decide) (fun _ => (zJ_goto 2132 dL_law__564 (by decide) (zJ_back (zle_r (zle_r (zle_r (zle_r (zle_r (zle_n (zle_n zle_0))))))) rfl (kk h2 S1 q11)))) (fun z => absurd (by rw [eL, q8 z0]; exact lg_same _) z)
theorem cs_net (hl : l.stackTraces = false) {n : Nat} {S : sT} (hh : lvI n (I, g) S) (hn : n ≤ 520) (hi : 9 * n + 9 ≤ Xi.1) (hx : Xi.1 ≤ 4608) (kk : lvK l Xi kc ks n post) : zJ l Xi mL_law_ 60 (kc + 7) (ks + 600) 567 (lL n none none) [] (I, g) post := by
  refine zJ_aload_n dL_law__567 rfl ?_
  refine zJ_aload_n dL_law__568 rfl ?_
  refine zJ_iload dL_law__569 rfl ?_
  refine zJ_iconst (v := nI 1) dL_law__571 rfl ?_
  refine zJ_iadd dL_law__572 ?_
  refine sx_ag (n := n) (j := 1) hi hx (by omega) dL_law__573 ?_
  refine zJ_aload_n dL_law__574 rfl ?_
  refine zJ_iload dL_law__575 rfl ?_
  refine zJ_iconst (v := nI 2) dL_law__577 rfl ?_
  refine zJ_iadd dL_law__578 ?_
  refine sx_ag (n := n) (j := 2) hi hx (by omega) dL_law__579 ?_
  refine zJ_aload_n dL_law__580 rfl ?_
  obtain ⟨kc', ks', q1, q2, hC⟩ := p_net (Xi := Xi) hl hh hn (a1 := ag Xi n 1) (a2 := ag Xi n 2)
  refine zJ_wid (kc := kc + kc') (ks := ks + ks') (by omega) (by omega) (zJ_callSH [.ref 0, .int (ag Xi n 1), .int (ag Xi n 2), .ref 642] [] lsh_L_133 hC rfl (by omega) (Nat.le_of_ble_eq_true rfl) rfl dL_law__581 (fun E h1 q _ => by obtain ⟨_, _, z, _⟩ := q; cases z) (fun r h1 q _ => ?_))
  obtain ⟨code, v, q3, ⟨q4, q5, q6⟩, hR⟩ := q
  cases q3
  refine zJ_istore dL_law__584 (Nat.le_of_ble_eq_true rfl) (by decide) ?_
  refine zJ_aload_n dL_law__586 rfl ?_
  refine zJ_aload_n dL_law__587 rfl ?_
  refine zJ_iload dL_law__588 rfl ?_
  refine zJ_iconst (v := nI 1) dL_law__590 rfl ?_
  refine zJ_iadd dL_law__591 ?_
  refine sx_ag (n := n) (j := 1) hi hx (by omega) dL_law__592 ?_
  refine zJ_aload_n dL_law__593 rfl ?_
  refine zJ_iload dL_law__594 rfl ?_
  refine zJ_iconst (v := nI 2) dL_law__596 rfl ?_
  refine zJ_iadd dL_law__597 ?_
  refine sx_ag (n := n) (j := 2) hi hx (by omega) dL_law__598 ?_
  refine zJ_wid (kc := kc + 0) (ks := ks + 0) (by omega) (by omega) (zJ_callV [.int (ag Xi n 1), .int (ag Xi n 2)] [] lv_L_136 hR (zSt_ob q5 74 13 rfl).1 (zSt_ob q5 74 13 rfl).2 rfl (by omega) (Nat.le_of_ble_eq_true rfl) rfl dL_law__599 (fun E h1 q _ => by obtain ⟨_, z, _⟩ := q; cases z) (fun r h2 q _ => ?_))
  obtain ⟨b, q7, q8, q9, q10, S1, q11⟩ := q
  cases q7
  refine zJ_istore dL_law__602 (Nat.le_of_ble_eq_true rfl) (by decide) ?_
  refine zJ_aload_n dL_law__604 rfl ?_
  refine zJ_wid (kc := kc + 0) (ks := ks + 0) (by omega) (by omega) (zJ_callV [] [] lv_L_109 (m_thrown (d := 50) (I := h2.1) (g := h2.2) hl (by omega) q11.1) (zSt_ob q11.1 74 13 rfl).1 (zSt_ob q11.1 74 13 rfl).2 rfl (by omega) (Nat.le_of_ble_eq_true rfl) rfl dL_law__605 (fun E h1 q _ => by cases q.1) (fun r h3 q _ => ?_))
  obtain ⟨y1, y2⟩ := q
  cases y1
  subst y2
  refine zJ_iload dL_law__608 rfl ?_
  refine zJ_icmp_eq 615 dL_law__610 (by decide) (fun _ => ?_) (fun z => absurd q10 z)
  refine zJ_iload dL_law__615 rfl ?_
  refine zJ_if_ne 632 dL_law__617 (by decide) (fun _ => (zJ_goto 2132 dL_law__632 (by decide) (zJ_back (zle_r (zle_r (zle_r (zle_r (zle_r (zle_n (zle_n zle_0))))))) rfl (kk h2 S1 q11)))) (fun z0 => ?_)
  refine zJ_aload_n dL_law__620 rfl ?_
  refine zJ_iconst (v := nI 0) dL_law__621 rfl ?_
  refine zJ_lald (a := 642) q11.2.1.1 q11.2.1.2 (vp_in_nI (n := 0) (by omega) (by omega)) dL_law__622 ?_
  refine zJ_iload dL_law__623 rfl ?_
  refine zJ_i2l dL_law__625 ?_
  refine zJ_lcmp dL_law__626 ?_
  have eL : h2.2.2.2.2 642 (nI 0).toNatClampNeg = v.toInt64 := by
    rw [q9]
    exact q6 z0
  refine zJ_if_eq 632 dL_law__627 (by decide) (fun _ => (zJ_goto 2132 dL_law__632 (by decide) (zJ_back (zle_r (zle_r (zle_r (zle_r (zle_r (zle_n (zle_n zle_0))))))) rfl (kk h2 S1 q11)))) (fun z => absurd (by rw [eL, q8 z0]; exact lg_same _) z)
theorem cs_place (hl : l.stackTraces = false) {n : Nat} {S : sT} (hh : lvI n (I, g) S) (hn : n ≤ 520) (hi : 9 * n + 9 ≤ Xi.1) (hx : Xi.1 ≤ 4608) (kk : lvK l Xi kc ks n post) : zJ l Xi mL_law_ 60 (kc + 7) (ks + 600) 635 (lL n none none) [] (I, g) post := by
  refine zJ_aload_n dL_law__635 rfl ?_
  refine zJ_aload_n dL_law__636 rfl ?_
  refine zJ_iload dL_law__637 rfl ?_
  refine zJ_iconst (v := nI 1) dL_law__639 rfl ?_
  refine zJ_iadd dL_law__640 ?_
  refine sx_ag (n := n) (j := 1) hi hx (by omega) dL_law__641 ?_
  refine zJ_aload_n dL_law__642 rfl ?_
  refine zJ_iload dL_law__643 rfl ?_
  refine zJ_iconst (v := nI 2) dL_law__645 rfl ?_
  refine zJ_iadd dL_law__646 ?_
  refine sx_ag (n := n) (j := 2) hi hx (by omega) dL_law__647 ?_
  refine zJ_aload_n dL_law__648 rfl ?_
  refine zJ_iload dL_law__649 rfl ?_
  refine zJ_iconst (v := nI 3) dL_law__651 rfl ?_
  refine zJ_iadd dL_law__652 ?_
  refine sx_ag (n := n) (j := 3) hi hx (by omega) dL_law__653 ?_
  refine zJ_aload_n dL_law__654 rfl ?_
  obtain ⟨kc', ks', q1, q2, hC⟩ := p_place (Xi := Xi) hl hh hn (a1 := ag Xi n 1) (a2 := ag Xi n 2) (a3 := ag Xi n 3)
  refine zJ_wid (kc := kc + kc') (ks := ks + ks') (by omega) (by omega) (zJ_callSH [.ref 0, .int (ag Xi n 1), .int (ag Xi n 2), .int (ag Xi n 3), .ref 642] [] lsh_L_137 hC rfl (by omega) (Nat.le_of_ble_eq_true rfl) rfl dL_law__655 (fun E h1 q _ => by obtain ⟨_, _, z, _⟩ := q; cases z) (fun r h1 q _ => ?_))
  obtain ⟨code, v, q3, ⟨q4, q5, q6⟩, hR⟩ := q
  cases q3
  refine zJ_istore dL_law__658 (Nat.le_of_ble_eq_true rfl) (by decide) ?_
  refine zJ_aload_n dL_law__660 rfl ?_
  refine zJ_aload_n dL_law__661 rfl ?_
  refine zJ_iload dL_law__662 rfl ?_
  refine zJ_iconst (v := nI 1) dL_law__664 rfl ?_
  refine zJ_iadd dL_law__665 ?_
  refine sx_ag (n := n) (j := 1) hi hx (by omega) dL_law__666 ?_
  refine zJ_aload_n dL_law__667 rfl ?_
  refine zJ_iload dL_law__668 rfl ?_
  refine zJ_iconst (v := nI 2) dL_law__670 rfl ?_
  refine zJ_iadd dL_law__671 ?_
  refine sx_ag (n := n) (j := 2) hi hx (by omega) dL_law__672 ?_
  refine zJ_aload_n dL_law__673 rfl ?_
  refine zJ_iload dL_law__674 rfl ?_
  refine zJ_iconst (v := nI 3) dL_law__676 rfl ?_
  refine zJ_iadd dL_law__677 ?_
  refine sx_ag (n := n) (j := 3) hi hx (by omega) dL_law__678 ?_
  refine zJ_wid (kc := kc + 0) (ks := ks + 0) (by omega) (by omega) (zJ_callV [.int (ag Xi n 1), .int (ag Xi n 2), .int (ag Xi n 3)] [] lv_L_140 hR (zSt_ob q5 74 13 rfl).1 (zSt_ob q5 74 13 rfl).2 rfl (by omega) (Nat.le_of_ble_eq_true rfl) rfl dL_law__679 (fun E h1 q _ => by obtain ⟨_, z, _⟩ := q; cases z) (fun r h2 q _ => ?_))
  obtain ⟨b, q7, q8, q9, q10, S1, q11⟩ := q
  cases q7
  refine zJ_istore dL_law__682 (Nat.le_of_ble_eq_true rfl) (by decide) ?_
  refine zJ_aload_n dL_law__684 rfl ?_
  refine zJ_wid (kc := kc + 0) (ks := ks + 0) (by omega) (by omega) (zJ_callV [] [] lv_L_109 (m_thrown (d := 50) (I := h2.1) (g := h2.2) hl (by omega) q11.1) (zSt_ob q11.1 74 13 rfl).1 (zSt_ob q11.1 74 13 rfl).2 rfl (by omega) (Nat.le_of_ble_eq_true rfl) rfl dL_law__685 (fun E h1 q _ => by cases q.1) (fun r h3 q _ => ?_))
  obtain ⟨y1, y2⟩ := q
  cases y1
  subst y2
  refine zJ_iload dL_law__688 rfl ?_
  refine zJ_icmp_eq 695 dL_law__690 (by decide) (fun _ => ?_) (fun z => absurd q10 z)
  refine zJ_iload dL_law__695 rfl ?_
  refine zJ_if_ne 712 dL_law__697 (by decide) (fun _ => (zJ_goto 2132 dL_law__712 (by decide) (zJ_back (zle_r (zle_r (zle_r (zle_r (zle_r (zle_n (zle_n zle_0))))))) rfl (kk h2 S1 q11)))) (fun z0 => ?_)
  refine zJ_aload_n dL_law__700 rfl ?_
  refine zJ_iconst (v := nI 0) dL_law__701 rfl ?_
  refine zJ_lald (a := 642) q11.2.1.1 q11.2.1.2 (vp_in_nI (n := 0) (by omega) (by omega)) dL_law__702 ?_
  refine zJ_iload dL_law__703 rfl ?_
  refine zJ_i2l dL_law__705 ?_
  refine zJ_lcmp dL_law__706 ?_
  have eL : h2.2.2.2.2 642 (nI 0).toNatClampNeg = v.toInt64 := by
    rw [q9]
    exact q6 z0
  refine zJ_if_eq 712 dL_law__707 (by decide) (fun _ => (zJ_goto 2132 dL_law__712 (by decide) (zJ_back (zle_r (zle_r (zle_r (zle_r (zle_r (zle_n (zle_n zle_0))))))) rfl (kk h2 S1 q11)))) (fun z => absurd (by rw [eL, q8 z0]; exact lg_same _) z)
theorem cs_cost (hl : l.stackTraces = false) {n : Nat} {S : sT} (hh : lvI n (I, g) S) (hn : n ≤ 520) (hi : 9 * n + 9 ≤ Xi.1) (hx : Xi.1 ≤ 4608) (kk : lvK l Xi kc ks n post) : zJ l Xi mL_law_ 60 (kc + 7) (ks + 600) 715 (lL n none none) [] (I, g) post := by
  refine zJ_aload_n dL_law__715 rfl ?_
  refine zJ_aload_n dL_law__716 rfl ?_
  refine zJ_iload dL_law__717 rfl ?_
  refine zJ_iconst (v := nI 1) dL_law__719 rfl ?_
  refine zJ_iadd dL_law__720 ?_
  refine sx_ag (n := n) (j := 1) hi hx (by omega) dL_law__721 ?_
  refine zJ_aload_n dL_law__722 rfl ?_
  refine zJ_iload dL_law__723 rfl ?_
  refine zJ_iconst (v := nI 2) dL_law__725 rfl ?_
  refine zJ_iadd dL_law__726 ?_
  refine sx_ag (n := n) (j := 2) hi hx (by omega) dL_law__727 ?_
  refine zJ_aload_n dL_law__728 rfl ?_
  refine zJ_iload dL_law__729 rfl ?_
  refine zJ_iconst (v := nI 3) dL_law__731 rfl ?_
  refine zJ_iadd dL_law__732 ?_
  refine sx_ag (n := n) (j := 3) hi hx (by omega) dL_law__733 ?_
  refine zJ_aload_n dL_law__734 rfl ?_
  obtain ⟨kc', ks', q1, q2, hC⟩ := p_cost (Xi := Xi) hl hh hn (a1 := ag Xi n 1) (a2 := ag Xi n 2) (a3 := ag Xi n 3)
  refine zJ_wid (kc := kc + kc') (ks := ks + ks') (by omega) (by omega) (zJ_callSH [.ref 0, .int (ag Xi n 1), .int (ag Xi n 2), .int (ag Xi n 3), .ref 642] [] lsh_L_141 hC rfl (by omega) (Nat.le_of_ble_eq_true rfl) rfl dL_law__735 (fun E h1 q _ => by obtain ⟨_, _, z, _⟩ := q; cases z) (fun r h1 q _ => ?_))
  obtain ⟨code, v, q3, ⟨q4, q5, q6⟩, hR⟩ := q
  cases q3
  refine zJ_istore dL_law__738 (Nat.le_of_ble_eq_true rfl) (by decide) ?_
  refine zJ_aload_n dL_law__740 rfl ?_
  refine zJ_aload_n dL_law__741 rfl ?_
  refine zJ_iload dL_law__742 rfl ?_
  refine zJ_iconst (v := nI 1) dL_law__744 rfl ?_
  refine zJ_iadd dL_law__745 ?_
  refine sx_ag (n := n) (j := 1) hi hx (by omega) dL_law__746 ?_
  refine zJ_aload_n dL_law__747 rfl ?_
  refine zJ_iload dL_law__748 rfl ?_
  refine zJ_iconst (v := nI 2) dL_law__750 rfl ?_
  refine zJ_iadd dL_law__751 ?_
  refine sx_ag (n := n) (j := 2) hi hx (by omega) dL_law__752 ?_
  refine zJ_aload_n dL_law__753 rfl ?_
  refine zJ_iload dL_law__754 rfl ?_
  refine zJ_iconst (v := nI 3) dL_law__756 rfl ?_
  refine zJ_iadd dL_law__757 ?_
  refine sx_ag (n := n) (j := 3) hi hx (by omega) dL_law__758 ?_
  refine zJ_wid (kc := kc + 0) (ks := ks + 0) (by omega) (by omega) (zJ_callV [.int (ag Xi n 1), .int (ag Xi n 2), .int (ag Xi n 3)] [] lv_L_143 hR (zSt_ob q5 74 13 rfl).1 (zSt_ob q5 74 13 rfl).2 rfl (by omega) (Nat.le_of_ble_eq_true rfl) rfl dL_law__759 (fun E h1 q _ => by obtain ⟨_, z, _⟩ := q; cases z) (fun r h2 q _ => ?_))
  obtain ⟨b, q7, q8, q9, q10, S1, q11⟩ := q
  cases q7
  refine zJ_istore dL_law__762 (Nat.le_of_ble_eq_true rfl) (by decide) ?_
  refine zJ_aload_n dL_law__764 rfl ?_
  refine zJ_wid (kc := kc + 0) (ks := ks + 0) (by omega) (by omega) (zJ_callV [] [] lv_L_109 (m_thrown (d := 50) (I := h2.1) (g := h2.2) hl (by omega) q11.1) (zSt_ob q11.1 74 13 rfl).1 (zSt_ob q11.1 74 13 rfl).2 rfl (by omega) (Nat.le_of_ble_eq_true rfl) rfl dL_law__765 (fun E h1 q _ => by cases q.1) (fun r h3 q _ => ?_))
  obtain ⟨y1, y2⟩ := q
  cases y1
  subst y2
  refine zJ_iload dL_law__768 rfl ?_
  refine zJ_icmp_eq 775 dL_law__770 (by decide) (fun _ => ?_) (fun z => absurd q10 z)
  refine zJ_iload dL_law__775 rfl ?_
  refine zJ_if_ne 792 dL_law__777 (by decide) (fun _ => (zJ_goto 2132 dL_law__792 (by decide) (zJ_back (zle_r (zle_r (zle_r (zle_r (zle_r (zle_n (zle_n zle_0))))))) rfl (kk h2 S1 q11)))) (fun z0 => ?_)
  refine zJ_aload_n dL_law__780 rfl ?_
  refine zJ_iconst (v := nI 0) dL_law__781 rfl ?_
  refine zJ_lald (a := 642) q11.2.1.1 q11.2.1.2 (vp_in_nI (n := 0) (by omega) (by omega)) dL_law__782 ?_
  refine zJ_iload dL_law__783 rfl ?_
  refine zJ_i2l dL_law__785 ?_
  refine zJ_lcmp dL_law__786 ?_
  have eL : h2.2.2.2.2 642 (nI 0).toNatClampNeg = v.toInt64 := by
    rw [q9]
    exact q6 z0
  refine zJ_if_eq 792 dL_law__787 (by decide) (fun _ => (zJ_goto 2132 dL_law__792 (by decide) (zJ_back (zle_r (zle_r (zle_r (zle_r (zle_r (zle_n (zle_n zle_0))))))) rfl (kk h2 S1 q11)))) (fun z => absurd (by rw [eL, q8 z0]; exact lg_same _) z)
theorem cs_would (hl : l.stackTraces = false) {n : Nat} {S : sT} (hh : lvI n (I, g) S) (hn : n ≤ 520) (hi : 9 * n + 9 ≤ Xi.1) (hx : Xi.1 ≤ 4608) (kk : lvK l Xi kc ks n post) : zJ l Xi mL_law_ 60 (kc + 7) (ks + 600) 795 (lL n none none) [] (I, g) post := by
  refine zJ_aload_n dL_law__795 rfl ?_
  refine zJ_aload_n dL_law__796 rfl ?_
  refine zJ_iload dL_law__797 rfl ?_
  refine zJ_iconst (v := nI 1) dL_law__799 rfl ?_
  refine zJ_iadd dL_law__800 ?_
  refine sx_ag (n := n) (j := 1) hi hx (by omega) dL_law__801 ?_
  refine zJ_aload_n dL_law__802 rfl ?_
  refine zJ_iload dL_law__803 rfl ?_
  refine zJ_iconst (v := nI 2) dL_law__805 rfl ?_
  refine zJ_iadd dL_law__806 ?_
  refine sx_ag (n := n) (j := 2) hi hx (by omega) dL_law__807 ?_
  refine zJ_aload_n dL_law__808 rfl ?_
  refine zJ_iload dL_law__809 rfl ?_
  refine zJ_iconst (v := nI 3) dL_law__811 rfl ?_
  refine zJ_iadd dL_law__812 ?_
  refine sx_ag (n := n) (j := 3) hi hx (by omega) dL_law__813 ?_
  refine zJ_aload_n dL_law__814 rfl ?_
  refine zJ_iload dL_law__815 rfl ?_
  refine zJ_iconst (v := nI 4) dL_law__817 rfl ?_
  refine zJ_iadd dL_law__818 ?_
  refine sx_ag (n := n) (j := 4) hi hx (by omega) dL_law__819 ?_
  refine zJ_aload_n dL_law__820 rfl ?_
  refine zJ_iload dL_law__821 rfl ?_
  refine zJ_iconst (v := nI 5) dL_law__823 rfl ?_
  refine zJ_iadd dL_law__824 ?_
  refine sx_ag (n := n) (j := 5) hi hx (by omega) dL_law__825 ?_
  refine zJ_aload_n dL_law__826 rfl ?_
  refine zJ_iload dL_law__827 rfl ?_
  refine zJ_bipush (v := nI 6) dL_law__829 rfl ?_
  refine zJ_iadd dL_law__831 ?_
  refine sx_ag (n := n) (j := 6) hi hx (by omega) dL_law__832 ?_
  refine zJ_aload_n dL_law__833 rfl ?_
  refine zJ_iload dL_law__834 rfl ?_
  refine zJ_bipush (v := nI 7) dL_law__836 rfl ?_
  refine zJ_iadd dL_law__838 ?_
  refine sx_ag (n := n) (j := 7) hi hx (by omega) dL_law__839 ?_
  refine zJ_aload_n dL_law__840 rfl ?_
  refine zJ_iload dL_law__841 rfl ?_
  refine zJ_bipush (v := nI 8) dL_law__843 rfl ?_
  refine zJ_iadd dL_law__845 ?_
  refine sx_ag (n := n) (j := 8) hi hx (by omega) dL_law__846 ?_
  refine zJ_aload_n dL_law__847 rfl ?_
  obtain ⟨kc', ks', q1, q2, hC⟩ := p_would (Xi := Xi) hl hh hn (a1 := ag Xi n 1) (a2 := ag Xi n 2) (a3 := ag Xi n 3) (a4 := ag Xi n 4) (a5 := ag Xi n 5) (a6 := ag Xi n 6) (a7 := ag Xi n 7) (a8 := ag Xi n 8)
  refine zJ_wid (kc := kc + kc') (ks := ks + ks') (by omega) (by omega) (zJ_callSH [.ref 0, .int (ag Xi n 1), .int (ag Xi n 2), .int (ag Xi n 3), .int (ag Xi n 4), .int (ag Xi n 5), .int (ag Xi n 6), .int (ag Xi n 7), .int (ag Xi n 8), .ref 642] [] lsh_L_144 hC rfl (by omega) (Nat.le_of_ble_eq_true rfl) rfl dL_law__848 (fun E h1 q _ => by obtain ⟨_, _, z, _⟩ := q; cases z) (fun r h1 q _ => ?_))
  obtain ⟨code, v, q3, ⟨q4, q5, q6⟩, hR⟩ := q
  cases q3
  refine zJ_istore dL_law__851 (Nat.le_of_ble_eq_true rfl) (by decide) ?_
  refine zJ_aload_n dL_law__853 rfl ?_
  refine zJ_aload_n dL_law__854 rfl ?_
  refine zJ_iload dL_law__855 rfl ?_
  refine zJ_iconst (v := nI 1) dL_law__857 rfl ?_
  refine zJ_iadd dL_law__858 ?_
  refine sx_ag (n := n) (j := 1) hi hx (by omega) dL_law__859 ?_
  refine zJ_aload_n dL_law__860 rfl ?_
  refine zJ_iload dL_law__861 rfl ?_
  refine zJ_iconst (v := nI 2) dL_law__863 rfl ?_
  refine zJ_iadd dL_law__864 ?_
  refine sx_ag (n := n) (j := 2) hi hx (by omega) dL_law__865 ?_
  refine zJ_aload_n dL_law__866 rfl ?_
  refine zJ_iload dL_law__867 rfl ?_
  refine zJ_iconst (v := nI 3) dL_law__869 rfl ?_
  refine zJ_iadd dL_law__870 ?_
  refine sx_ag (n := n) (j := 3) hi hx (by omega) dL_law__871 ?_
  refine zJ_aload_n dL_law__872 rfl ?_
  refine zJ_iload dL_law__873 rfl ?_
  refine zJ_iconst (v := nI 4) dL_law__875 rfl ?_
  refine zJ_iadd dL_law__876 ?_
  refine sx_ag (n := n) (j := 4) hi hx (by omega) dL_law__877 ?_
  refine zJ_aload_n dL_law__878 rfl ?_
  refine zJ_iload dL_law__879 rfl ?_
  refine zJ_iconst (v := nI 5) dL_law__881 rfl ?_
  refine zJ_iadd dL_law__882 ?_
  refine sx_ag (n := n) (j := 5) hi hx (by omega) dL_law__883 ?_
  refine zJ_aload_n dL_law__884 rfl ?_
  refine zJ_iload dL_law__885 rfl ?_
  refine zJ_bipush (v := nI 6) dL_law__887 rfl ?_
  refine zJ_iadd dL_law__889 ?_
  refine sx_ag (n := n) (j := 6) hi hx (by omega) dL_law__890 ?_
  refine zJ_aload_n dL_law__891 rfl ?_
  refine zJ_iload dL_law__892 rfl ?_
  refine zJ_bipush (v := nI 7) dL_law__894 rfl ?_
  refine zJ_iadd dL_law__896 ?_
  refine sx_ag (n := n) (j := 7) hi hx (by omega) dL_law__897 ?_
  refine zJ_aload_n dL_law__898 rfl ?_
  refine zJ_iload dL_law__899 rfl ?_
  refine zJ_bipush (v := nI 8) dL_law__901 rfl ?_
  refine zJ_iadd dL_law__903 ?_
  refine sx_ag (n := n) (j := 8) hi hx (by omega) dL_law__904 ?_
  refine zJ_wid (kc := kc + 0) (ks := ks + 0) (by omega) (by omega) (zJ_callV [.int (ag Xi n 1), .int (ag Xi n 2), .int (ag Xi n 3), .int (ag Xi n 4), .int (ag Xi n 5), .int (ag Xi n 6), .int (ag Xi n 7), .int (ag Xi n 8)] [] lv_L_147 hR (zSt_ob q5 74 13 rfl).1 (zSt_ob q5 74 13 rfl).2 rfl (by omega) (Nat.le_of_ble_eq_true rfl) rfl dL_law__905 (fun E h1 q _ => by obtain ⟨_, z, _⟩ := q; cases z) (fun r h2 q _ => ?_))
  obtain ⟨b, q7, q8, q9, q10, S1, q11⟩ := q
  cases q7
  refine zJ_istore dL_law__908 (Nat.le_of_ble_eq_true rfl) (by decide) ?_
  refine zJ_aload_n dL_law__910 rfl ?_
  refine zJ_wid (kc := kc + 0) (ks := ks + 0) (by omega) (by omega) (zJ_callV [] [] lv_L_109 (m_thrown (d := 50) (I := h2.1) (g := h2.2) hl (by omega) q11.1) (zSt_ob q11.1 74 13 rfl).1 (zSt_ob q11.1 74 13 rfl).2 rfl (by omega) (Nat.le_of_ble_eq_true rfl) rfl dL_law__911 (fun E h1 q _ => by cases q.1) (fun r h3 q _ => ?_))
  obtain ⟨y1, y2⟩ := q
  cases y1
  subst y2
  refine zJ_iload dL_law__914 rfl ?_
  refine zJ_icmp_eq 921 dL_law__916 (by decide) (fun _ => ?_) (fun z => absurd q10 z)
  refine zJ_iload dL_law__921 rfl ?_
  refine zJ_if_ne 938 dL_law__923 (by decide) (fun _ => (zJ_goto 2132 dL_law__938 (by decide) (zJ_back (zle_r (zle_r (zle_r (zle_r (zle_r (zle_n (zle_n zle_0))))))) rfl (kk h2 S1 q11)))) (fun z0 => ?_)
  refine zJ_aload_n dL_law__926 rfl ?_
  refine zJ_iconst (v := nI 0) dL_law__927 rfl ?_
  refine zJ_lald (a := 642) q11.2.1.1 q11.2.1.2 (vp_in_nI (n := 0) (by omega) (by omega)) dL_law__928 ?_
  refine zJ_iload dL_law__929 rfl ?_
  refine zJ_i2l dL_law__931 ?_
  refine zJ_lcmp dL_law__932 ?_
  have eL : h2.2.2.2.2 642 (nI 0).toNatClampNeg = v.toInt64 := by
    rw [q9]
    exact q6 z0
  refine zJ_if_eq 938 dL_law__933 (by decide) (fun _ => (zJ_goto 2132 dL_law__938 (by decide) (zJ_back (zle_r (zle_r (zle_r (zle_r (zle_r (zle_n (zle_n zle_0))))))) rfl (kk h2 S1 q11)))) (fun z => absurd (by rw [eL, q8 z0]; exact lg_same _) z)
theorem cs_parent (hl : l.stackTraces = false) {n : Nat} {S : sT} (hh : lvI n (I, g) S) (hn : n ≤ 520) (hi : 9 * n + 9 ≤ Xi.1) (hx : Xi.1 ≤ 4608) (kk : lvK l Xi kc ks n post) : zJ l Xi mL_law_ 60 (kc + 7) (ks + 600) 941 (lL n none none) [] (I, g) post := by
  refine zJ_aload_n dL_law__941 rfl ?_
  refine zJ_aload_n dL_law__942 rfl ?_
  refine zJ_iload dL_law__943 rfl ?_
  refine zJ_iconst (v := nI 1) dL_law__945 rfl ?_
  refine zJ_iadd dL_law__946 ?_
  refine sx_ag (n := n) (j := 1) hi hx (by omega) dL_law__947 ?_
  refine zJ_aload_n dL_law__948 rfl ?_
  refine zJ_iload dL_law__949 rfl ?_
  refine zJ_iconst (v := nI 2) dL_law__951 rfl ?_
  refine zJ_iadd dL_law__952 ?_
  refine sx_ag (n := n) (j := 2) hi hx (by omega) dL_law__953 ?_
  refine zJ_aload_n dL_law__954 rfl ?_
  refine zJ_iload dL_law__955 rfl ?_
  refine zJ_iconst (v := nI 3) dL_law__957 rfl ?_
  refine zJ_iadd dL_law__958 ?_
  refine sx_ag (n := n) (j := 3) hi hx (by omega) dL_law__959 ?_
  refine zJ_aload_n dL_law__960 rfl ?_
  obtain ⟨kc', ks', q1, q2, hC⟩ := p_parent (Xi := Xi) hl hh hn (a1 := ag Xi n 1) (a2 := ag Xi n 2) (a3 := ag Xi n 3)
  refine zJ_wid (kc := kc + kc') (ks := ks + ks') (by omega) (by omega) (zJ_callSH [.ref 0, .int (ag Xi n 1), .int (ag Xi n 2), .int (ag Xi n 3), .ref 642] [] lsh_L_148 hC rfl (by omega) (Nat.le_of_ble_eq_true rfl) rfl dL_law__961 (fun E h1 q _ => by obtain ⟨_, _, z, _⟩ := q; cases z) (fun r h1 q _ => ?_))
  obtain ⟨code, v, q3, ⟨q4, q5, q6⟩, hR⟩ := q
  cases q3
  refine zJ_istore dL_law__964 (Nat.le_of_ble_eq_true rfl) (by decide) ?_
  refine zJ_aload_n dL_law__966 rfl ?_
  refine zJ_aload_n dL_law__967 rfl ?_
  refine zJ_iload dL_law__968 rfl ?_
  refine zJ_iconst (v := nI 1) dL_law__970 rfl ?_
  refine zJ_iadd dL_law__971 ?_
  refine sx_ag (n := n) (j := 1) hi hx (by omega) dL_law__972 ?_
  refine zJ_aload_n dL_law__973 rfl ?_
  refine zJ_iload dL_law__974 rfl ?_
  refine zJ_iconst (v := nI 2) dL_law__976 rfl ?_
  refine zJ_iadd dL_law__977 ?_
  refine sx_ag (n := n) (j := 2) hi hx (by omega) dL_law__978 ?_
  refine zJ_aload_n dL_law__979 rfl ?_
  refine zJ_iload dL_law__980 rfl ?_
  refine zJ_iconst (v := nI 3) dL_law__982 rfl ?_
  refine zJ_iadd dL_law__983 ?_
  refine sx_ag (n := n) (j := 3) hi hx (by omega) dL_law__984 ?_
  refine zJ_wid (kc := kc + 0) (ks := ks + 0) (by omega) (by omega) (zJ_callV [.int (ag Xi n 1), .int (ag Xi n 2), .int (ag Xi n 3)] [] lv_L_150 hR (zSt_ob q5 74 13 rfl).1 (zSt_ob q5 74 13 rfl).2 rfl (by omega) (Nat.le_of_ble_eq_true rfl) rfl dL_law__985 (fun E h1 q _ => by obtain ⟨_, z, _⟩ := q; cases z) (fun r h2 q _ => ?_))
  obtain ⟨b, q7, q8, q9, q10, S1, q11⟩ := q
  cases q7
  refine zJ_istore dL_law__988 (Nat.le_of_ble_eq_true rfl) (by decide) ?_
  refine zJ_aload_n dL_law__990 rfl ?_
  refine zJ_wid (kc := kc + 0) (ks := ks + 0) (by omega) (by omega) (zJ_callV [] [] lv_L_109 (m_thrown (d := 50) (I := h2.1) (g := h2.2) hl (by omega) q11.1) (zSt_ob q11.1 74 13 rfl).1 (zSt_ob q11.1 74 13 rfl).2 rfl (by omega) (Nat.le_of_ble_eq_true rfl) rfl dL_law__991 (fun E h1 q _ => by cases q.1) (fun r h3 q _ => ?_))
  obtain ⟨y1, y2⟩ := q
  cases y1
  subst y2
  refine zJ_iload dL_law__994 rfl ?_
  refine zJ_icmp_eq 1001 dL_law__996 (by decide) (fun _ => ?_) (fun z => absurd q10 z)
  refine zJ_iload dL_law__1001 rfl ?_
  refine zJ_if_ne 1018 dL_law__1003 (by decide) (fun _ => (zJ_goto 2132 dL_law__1018 (by decide) (zJ_back (zle_r (zle_r (zle_r (zle_r (zle_r (zle_n (zle_n zle_0))))))) rfl (kk h2 S1 q11)))) (fun z0 => ?_)
  refine zJ_aload_n dL_law__1006 rfl ?_
  refine zJ_iconst (v := nI 0) dL_law__1007 rfl ?_
  refine zJ_lald (a := 642) q11.2.1.1 q11.2.1.2 (vp_in_nI (n := 0) (by omega) (by omega)) dL_law__1008 ?_
  refine zJ_iload dL_law__1009 rfl ?_
  refine zJ_i2l dL_law__1011 ?_
  refine zJ_lcmp dL_law__1012 ?_
  have eL : h2.2.2.2.2 642 (nI 0).toNatClampNeg = v.toInt64 := by
    rw [q9]
    exact q6 z0
  refine zJ_if_eq 1018 dL_law__1013 (by decide) (fun _ => (zJ_goto 2132 dL_law__1018 (by decide) (zJ_back (zle_r (zle_r (zle_r (zle_r (zle_r (zle_n (zle_n zle_0))))))) rfl (kk h2 S1 q11)))) (fun z => absurd (by rw [eL, q8 z0]; exact lg_same _) z)
theorem cs_dist (hl : l.stackTraces = false) {n : Nat} {S : sT} (hh : lvI n (I, g) S) (hn : n ≤ 520) (hi : 9 * n + 9 ≤ Xi.1) (hx : Xi.1 ≤ 4608) (kk : lvK l Xi kc ks n post) : zJ l Xi mL_law_ 60 (kc + 7) (ks + 600) 1021 (lL n none none) [] (I, g) post := by
  refine zJ_aload_n dL_law__1021 rfl ?_
  refine zJ_aload_n dL_law__1022 rfl ?_
  refine zJ_iload dL_law__1023 rfl ?_
  refine zJ_iconst (v := nI 1) dL_law__1025 rfl ?_
  refine zJ_iadd dL_law__1026 ?_
  refine sx_ag (n := n) (j := 1) hi hx (by omega) dL_law__1027 ?_
  refine zJ_aload_n dL_law__1028 rfl ?_
  refine zJ_iload dL_law__1029 rfl ?_
  refine zJ_iconst (v := nI 2) dL_law__1031 rfl ?_
  refine zJ_iadd dL_law__1032 ?_
  refine sx_ag (n := n) (j := 2) hi hx (by omega) dL_law__1033 ?_
  refine zJ_aload_n dL_law__1034 rfl ?_
  refine zJ_iload dL_law__1035 rfl ?_
  refine zJ_iconst (v := nI 3) dL_law__1037 rfl ?_
  refine zJ_iadd dL_law__1038 ?_
  refine sx_ag (n := n) (j := 3) hi hx (by omega) dL_law__1039 ?_
  refine zJ_aload_n dL_law__1040 rfl ?_
  obtain ⟨kc', ks', q1, q2, hC⟩ := p_dist (Xi := Xi) hl hh hn (a1 := ag Xi n 1) (a2 := ag Xi n 2) (a3 := ag Xi n 3)
  refine zJ_wid (kc := kc + kc') (ks := ks + ks') (by omega) (by omega) (zJ_callSH [.ref 0, .int (ag Xi n 1), .int (ag Xi n 2), .int (ag Xi n 3), .ref 642] [] lsh_L_151 hC rfl (by omega) (Nat.le_of_ble_eq_true rfl) rfl dL_law__1041 (fun E h1 q _ => by obtain ⟨_, _, z, _⟩ := q; cases z) (fun r h1 q _ => ?_))
  obtain ⟨code, v, q3, ⟨q4, q5, q6⟩, hR⟩ := q
  cases q3
  refine zJ_istore dL_law__1044 (Nat.le_of_ble_eq_true rfl) (by decide) ?_
  refine zJ_aload_n dL_law__1046 rfl ?_
  refine zJ_aload_n dL_law__1047 rfl ?_
  refine zJ_iload dL_law__1048 rfl ?_
  refine zJ_iconst (v := nI 1) dL_law__1050 rfl ?_
  refine zJ_iadd dL_law__1051 ?_
  refine sx_ag (n := n) (j := 1) hi hx (by omega) dL_law__1052 ?_
  refine zJ_aload_n dL_law__1053 rfl ?_
  refine zJ_iload dL_law__1054 rfl ?_
  refine zJ_iconst (v := nI 2) dL_law__1056 rfl ?_
  refine zJ_iadd dL_law__1057 ?_
  refine sx_ag (n := n) (j := 2) hi hx (by omega) dL_law__1058 ?_
  refine zJ_aload_n dL_law__1059 rfl ?_
  refine zJ_iload dL_law__1060 rfl ?_
  refine zJ_iconst (v := nI 3) dL_law__1062 rfl ?_
  refine zJ_iadd dL_law__1063 ?_
  refine sx_ag (n := n) (j := 3) hi hx (by omega) dL_law__1064 ?_
  refine zJ_wid (kc := kc + 0) (ks := ks + 0) (by omega) (by omega) (zJ_callV [.int (ag Xi n 1), .int (ag Xi n 2), .int (ag Xi n 3)] [] lv_L_153 hR (zSt_ob q5 74 13 rfl).1 (zSt_ob q5 74 13 rfl).2 rfl (by omega) (Nat.le_of_ble_eq_true rfl) rfl dL_law__1065 (fun E h1 q _ => by obtain ⟨_, z, _⟩ := q; cases z) (fun r h2 q _ => ?_))
  obtain ⟨b, q7, q8, q9, q10, S1, q11⟩ := q
  cases q7
  refine zJ_istore dL_law__1068 (Nat.le_of_ble_eq_true rfl) (by decide) ?_
  refine zJ_aload_n dL_law__1070 rfl ?_
  refine zJ_wid (kc := kc + 0) (ks := ks + 0) (by omega) (by omega) (zJ_callV [] [] lv_L_109 (m_thrown (d := 50) (I := h2.1) (g := h2.2) hl (by omega) q11.1) (zSt_ob q11.1 74 13 rfl).1 (zSt_ob q11.1 74 13 rfl).2 rfl (by omega) (Nat.le_of_ble_eq_true rfl) rfl dL_law__1071 (fun E h1 q _ => by cases q.1) (fun r h3 q _ => ?_))
  obtain ⟨y1, y2⟩ := q
  cases y1
  subst y2
  refine zJ_iload dL_law__1074 rfl ?_
  refine zJ_icmp_eq 1081 dL_law__1076 (by decide) (fun _ => ?_) (fun z => absurd q10 z)
  refine zJ_iload dL_law__1081 rfl ?_
  refine zJ_if_ne 1098 dL_law__1083 (by decide) (fun _ => (zJ_goto 2132 dL_law__1098 (by decide) (zJ_back (zle_r (zle_r (zle_r (zle_r (zle_r (zle_n (zle_n zle_0))))))) rfl (kk h2 S1 q11)))) (fun z0 => ?_)
  refine zJ_aload_n dL_law__1086 rfl ?_
  refine zJ_iconst (v := nI 0) dL_law__1087 rfl ?_
  refine zJ_lald (a := 642) q11.2.1.1 q11.2.1.2 (vp_in_nI (n := 0) (by omega) (by omega)) dL_law__1088 ?_
  refine zJ_iload dL_law__1089 rfl ?_
  refine zJ_i2l dL_law__1091 ?_
  refine zJ_lcmp dL_law__1092 ?_
  have eL : h2.2.2.2.2 642 (nI 0).toNatClampNeg = v.toInt64 := by
    rw [q9]
    exact q6 z0
  refine zJ_if_eq 1098 dL_law__1093 (by decide) (fun _ => (zJ_goto 2132 dL_law__1098 (by decide) (zJ_back (zle_r (zle_r (zle_r (zle_r (zle_r (zle_n (zle_n zle_0))))))) rfl (kk h2 S1 q11)))) (fun z => absurd (by rw [eL, q8 z0]; exact lg_same _) z)
theorem cs_spared (hl : l.stackTraces = false) {n : Nat} {S : sT} (hh : lvI n (I, g) S) (hn : n ≤ 520) (hi : 9 * n + 9 ≤ Xi.1) (hx : Xi.1 ≤ 4608) (kk : lvK l Xi kc ks n post) : zJ l Xi mL_law_ 60 (kc + 7) (ks + 600) 1101 (lL n none none) [] (I, g) post := by
  refine zJ_aload_n dL_law__1101 rfl ?_
  refine zJ_aload_n dL_law__1102 rfl ?_
  refine zJ_iload dL_law__1103 rfl ?_
  refine zJ_iconst (v := nI 1) dL_law__1105 rfl ?_
  refine zJ_iadd dL_law__1106 ?_
  refine sx_ag (n := n) (j := 1) hi hx (by omega) dL_law__1107 ?_
  refine zJ_aload_n dL_law__1108 rfl ?_
  refine zJ_iload dL_law__1109 rfl ?_
  refine zJ_iconst (v := nI 2) dL_law__1111 rfl ?_
  refine zJ_iadd dL_law__1112 ?_
  refine sx_ag (n := n) (j := 2) hi hx (by omega) dL_law__1113 ?_
  refine zJ_aload_n dL_law__1114 rfl ?_
  refine zJ_iload dL_law__1115 rfl ?_
  refine zJ_iconst (v := nI 3) dL_law__1117 rfl ?_
  refine zJ_iadd dL_law__1118 ?_
  refine sx_ag (n := n) (j := 3) hi hx (by omega) dL_law__1119 ?_
  refine zJ_aload_n dL_law__1120 rfl ?_
  obtain ⟨kc', ks', q1, q2, hC⟩ := p_spared (Xi := Xi) hl hh hn (a1 := ag Xi n 1) (a2 := ag Xi n 2) (a3 := ag Xi n 3)
  refine zJ_wid (kc := kc + kc') (ks := ks + ks') (by omega) (by omega) (zJ_callSH [.ref 0, .int (ag Xi n 1), .int (ag Xi n 2), .int (ag Xi n 3), .ref 642] [] lsh_L_154 hC rfl (by omega) (Nat.le_of_ble_eq_true rfl) rfl dL_law__1121 (fun E h1 q _ => by obtain ⟨_, _, z, _⟩ := q; cases z) (fun r h1 q _ => ?_))
  obtain ⟨code, v, q3, ⟨q4, q5, q6⟩, hR⟩ := q
  cases q3
  refine zJ_istore dL_law__1124 (Nat.le_of_ble_eq_true rfl) (by decide) ?_
  refine zJ_aload_n dL_law__1126 rfl ?_
  refine zJ_aload_n dL_law__1127 rfl ?_
  refine zJ_iload dL_law__1128 rfl ?_
  refine zJ_iconst (v := nI 1) dL_law__1130 rfl ?_
  refine zJ_iadd dL_law__1131 ?_
  refine sx_ag (n := n) (j := 1) hi hx (by omega) dL_law__1132 ?_
  refine zJ_aload_n dL_law__1133 rfl ?_
  refine zJ_iload dL_law__1134 rfl ?_
  refine zJ_iconst (v := nI 2) dL_law__1136 rfl ?_
  refine zJ_iadd dL_law__1137 ?_
  refine sx_ag (n := n) (j := 2) hi hx (by omega) dL_law__1138 ?_
  refine zJ_aload_n dL_law__1139 rfl ?_
  refine zJ_iload dL_law__1140 rfl ?_
  refine zJ_iconst (v := nI 3) dL_law__1142 rfl ?_
  refine zJ_iadd dL_law__1143 ?_
  refine sx_ag (n := n) (j := 3) hi hx (by omega) dL_law__1144 ?_
  refine zJ_wid (kc := kc + 0) (ks := ks + 0) (by omega) (by omega) (zJ_callV [.int (ag Xi n 1), .int (ag Xi n 2), .int (ag Xi n 3)] [] lv_L_156 hR (zSt_ob q5 74 13 rfl).1 (zSt_ob q5 74 13 rfl).2 rfl (by omega) (Nat.le_of_ble_eq_true rfl) rfl dL_law__1145 (fun E h1 q _ => by obtain ⟨_, z, _⟩ := q; cases z) (fun r h2 q _ => ?_))
  obtain ⟨b, q7, q8, q9, q10, S1, q11⟩ := q
  cases q7
  refine zJ_istore dL_law__1148 (Nat.le_of_ble_eq_true rfl) (by decide) ?_
  refine zJ_aload_n dL_law__1150 rfl ?_
  refine zJ_wid (kc := kc + 0) (ks := ks + 0) (by omega) (by omega) (zJ_callV [] [] lv_L_109 (m_thrown (d := 50) (I := h2.1) (g := h2.2) hl (by omega) q11.1) (zSt_ob q11.1 74 13 rfl).1 (zSt_ob q11.1 74 13 rfl).2 rfl (by omega) (Nat.le_of_ble_eq_true rfl) rfl dL_law__1151 (fun E h1 q _ => by cases q.1) (fun r h3 q _ => ?_))
  obtain ⟨y1, y2⟩ := q
  cases y1
  subst y2
  refine zJ_iload dL_law__1154 rfl ?_
  refine zJ_icmp_eq 1161 dL_law__1156 (by decide) (fun _ => ?_) (fun z => absurd q10 z)
  refine zJ_iload dL_law__1161 rfl ?_
  refine zJ_if_ne 1178 dL_law__1163 (by decide) (fun _ => (zJ_goto 2132 dL_law__1178 (by decide) (zJ_back (zle_r (zle_r (zle_r (zle_r (zle_r (zle_n (zle_n zle_0))))))) rfl (kk h2 S1 q11)))) (fun z0 => ?_)
  refine zJ_aload_n dL_law__1166 rfl ?_
  refine zJ_iconst (v := nI 0) dL_law__1167 rfl ?_
  refine zJ_lald (a := 642) q11.2.1.1 q11.2.1.2 (vp_in_nI (n := 0) (by omega) (by omega)) dL_law__1168 ?_
  refine zJ_iload dL_law__1169 rfl ?_
  refine zJ_i2l dL_law__1171 ?_
  refine zJ_lcmp dL_law__1172 ?_
  have eL : h2.2.2.2.2 642 (nI 0).toNatClampNeg = v.toInt64 := by
    rw [q9]
    exact q6 z0
  refine zJ_if_eq 1178 dL_law__1173 (by decide) (fun _ => (zJ_goto 2132 dL_law__1178 (by decide) (zJ_back (zle_r (zle_r (zle_r (zle_r (zle_r (zle_n (zle_n zle_0))))))) rfl (kk h2 S1 q11)))) (fun z => absurd (by rw [eL, q8 z0]; exact lg_same _) z)
theorem cs_settled (hl : l.stackTraces = false) {n : Nat} {S : sT} (hh : lvI n (I, g) S) (hn : n ≤ 520) (hi : 9 * n + 9 ≤ Xi.1) (hx : Xi.1 ≤ 4608) (kk : lvK l Xi kc ks n post) : zJ l Xi mL_law_ 60 (kc + 7) (ks + 600) 1181 (lL n none none) [] (I, g) post := by
  refine zJ_aload_n dL_law__1181 rfl ?_
  obtain ⟨kc', ks', q1, q2, hC⟩ := p_settled (Xi := Xi) hl hh hn
  refine zJ_wid (kc := kc + kc') (ks := ks + ks') (by omega) (by omega) (zJ_callV [] [] lv_L_157 hC (zSt_ob hh.1 0 12 rfl).1 (zSt_ob hh.1 0 12 rfl).2 rfl (by omega) (Nat.le_of_ble_eq_true rfl) rfl dL_law__1182 (fun E h1 q _ => by obtain ⟨_, z, _⟩ := q; cases z) (fun r h1 q _ => ?_))
  obtain ⟨v, q3, q5, hR⟩ := q
  cases q3
  refine zJ_aload_n dL_law__1185 rfl ?_
  refine zJ_wid (kc := kc + 0) (ks := ks + 0) (by omega) (by omega) (zJ_callV [] [.int v] lv_L_160 hR (zSt_ob q5 74 13 rfl).1 (zSt_ob q5 74 13 rfl).2 rfl (by omega) (Nat.le_of_ble_eq_true rfl) rfl dL_law__1186 (fun E h1 q _ => by obtain ⟨z, _⟩ := q; cases z) (fun r h2 q _ => ?_))
  obtain ⟨q7, S1, q11⟩ := q
  cases q7
  exact zJ_icmp_eq 2132 dL_law__1189 (by decide) (fun _ => zJ_back (zle_r (zle_r (zle_r (zle_r (zle_r (zle_n (zle_n zle_0))))))) rfl (kk h2 S1 q11)) (fun z => absurd rfl z)
theorem cs_jam (hl : l.stackTraces = false) {n : Nat} {S : sT} (hh : lvI n (I, g) S) (hn : n ≤ 520) (hi : 9 * n + 9 ≤ Xi.1) (hx : Xi.1 ≤ 4608) (kk : lvK l Xi kc ks n post) : zJ l Xi mL_law_ 60 (kc + 7) (ks + 600) 1194 (lL n none none) [] (I, g) post := by
  refine zJ_aload_n dL_law__1194 rfl ?_
  refine zJ_aload_n dL_law__1195 rfl ?_
  refine zJ_iload dL_law__1196 rfl ?_
  refine zJ_iconst (v := nI 1) dL_law__1198 rfl ?_
  refine zJ_iadd dL_law__1199 ?_
  refine sx_ag (n := n) (j := 1) hi hx (by omega) dL_law__1200 ?_
  refine zJ_aload_n dL_law__1201 rfl ?_
  obtain ⟨kc', ks', q1, q2, hC⟩ := p_jam (Xi := Xi) hl hh hn (a1 := ag Xi n 1)
  refine zJ_wid (kc := kc + kc') (ks := ks + ks') (by omega) (by omega) (zJ_callSH [.ref 0, .int (ag Xi n 1), .ref 642] [] lsh_L_161 hC rfl (by omega) (Nat.le_of_ble_eq_true rfl) rfl dL_law__1202 (fun E h1 q _ => by obtain ⟨_, _, z, _⟩ := q; cases z) (fun r h1 q _ => ?_))
  obtain ⟨code, v, q3, ⟨q4, q5, q6⟩, hR⟩ := q
  cases q3
  refine zJ_istore dL_law__1205 (Nat.le_of_ble_eq_true rfl) (by decide) ?_
  refine zJ_aload_n dL_law__1207 rfl ?_
  refine zJ_aload_n dL_law__1208 rfl ?_
  refine zJ_iload dL_law__1209 rfl ?_
  refine zJ_iconst (v := nI 1) dL_law__1211 rfl ?_
  refine zJ_iadd dL_law__1212 ?_
  refine sx_ag (n := n) (j := 1) hi hx (by omega) dL_law__1213 ?_
  refine zJ_wid (kc := kc + 0) (ks := ks + 0) (by omega) (by omega) (zJ_callV [.int (ag Xi n 1)] [] lv_L_163 hR (zSt_ob q5 74 13 rfl).1 (zSt_ob q5 74 13 rfl).2 rfl (by omega) (Nat.le_of_ble_eq_true rfl) rfl dL_law__1214 (fun E h1 q _ => by obtain ⟨_, z, _⟩ := q; cases z) (fun r h2 q _ => ?_))
  obtain ⟨b, q7, q8, q9, q10, S1, q11⟩ := q
  cases q7
  refine zJ_istore dL_law__1217 (Nat.le_of_ble_eq_true rfl) (by decide) ?_
  refine zJ_aload_n dL_law__1219 rfl ?_
  refine zJ_wid (kc := kc + 0) (ks := ks + 0) (by omega) (by omega) (zJ_callV [] [] lv_L_109 (m_thrown (d := 50) (I := h2.1) (g := h2.2) hl (by omega) q11.1) (zSt_ob q11.1 74 13 rfl).1 (zSt_ob q11.1 74 13 rfl).2 rfl (by omega) (Nat.le_of_ble_eq_true rfl) rfl dL_law__1220 (fun E h1 q _ => by cases q.1) (fun r h3 q _ => ?_))
  obtain ⟨y1, y2⟩ := q
  cases y1
  subst y2
  refine zJ_iload dL_law__1223 rfl ?_
  refine zJ_icmp_eq 1230 dL_law__1225 (by decide) (fun _ => ?_) (fun z => absurd q10 z)
  refine zJ_iload dL_law__1230 rfl ?_
  refine zJ_if_ne 1247 dL_law__1232 (by decide) (fun _ => (zJ_goto 2132 dL_law__1247 (by decide) (zJ_back (zle_r (zle_r (zle_r (zle_r (zle_r (zle_n (zle_n zle_0))))))) rfl (kk h2 S1 q11)))) (fun z0 => ?_)
  refine zJ_aload_n dL_law__1235 rfl ?_
  refine zJ_iconst (v := nI 0) dL_law__1236 rfl ?_
  refine zJ_lald (a := 642) q11.2.1.1 q11.2.1.2 (vp_in_nI (n := 0) (by omega) (by omega)) dL_law__1237 ?_
  refine zJ_iload dL_law__1238 rfl ?_
  refine zJ_i2l dL_law__1240 ?_
  refine zJ_lcmp dL_law__1241 ?_
  have eL : h2.2.2.2.2 642 (nI 0).toNatClampNeg = v.toInt64 := by
    rw [q9]
    exact q6 z0
  refine zJ_if_eq 1247 dL_law__1242 (by decide) (fun _ => (zJ_goto 2132 dL_law__1247 (by decide) (zJ_back (zle_r (zle_r (zle_r (zle_r (zle_r (zle_n (zle_n zle_0))))))) rfl (kk h2 S1 q11)))) (fun z => absurd (by rw [eL, q8 z0]; exact lg_same _) z)
theorem cs_ahead (hl : l.stackTraces = false) {n : Nat} {S : sT} (hh : lvI n (I, g) S) (hn : n ≤ 520) (hi : 9 * n + 9 ≤ Xi.1) (hx : Xi.1 ≤ 4608) (kk : lvK l Xi kc ks n post) : zJ l Xi mL_law_ 60 (kc + 7) (ks + 600) 1250 (lL n none none) [] (I, g) post := by
  refine zJ_aload_n dL_law__1250 rfl ?_
  refine zJ_aload_n dL_law__1251 rfl ?_
  refine zJ_iload dL_law__1252 rfl ?_
  refine zJ_iconst (v := nI 1) dL_law__1254 rfl ?_
  refine zJ_iadd dL_law__1255 ?_
  refine sx_ag (n := n) (j := 1) hi hx (by omega) dL_law__1256 ?_
  refine zJ_aload_n dL_law__1257 rfl ?_
  refine zJ_iload dL_law__1258 rfl ?_
  refine zJ_iconst (v := nI 2) dL_law__1260 rfl ?_
  refine zJ_iadd dL_law__1261 ?_
  refine sx_ag (n := n) (j := 2) hi hx (by omega) dL_law__1262 ?_
  refine zJ_aload_n dL_law__1263 rfl ?_
  obtain ⟨kc', ks', q1, q2, hC⟩ := p_ahead (Xi := Xi) hl hh hn (a1 := ag Xi n 1) (a2 := ag Xi n 2)
  refine zJ_wid (kc := kc + kc') (ks := ks + ks') (by omega) (by omega) (zJ_callSH [.ref 0, .int (ag Xi n 1), .int (ag Xi n 2), .ref 642] [] lsh_L_164 hC rfl (by omega) (Nat.le_of_ble_eq_true rfl) rfl dL_law__1264 (fun E h1 q _ => by obtain ⟨_, _, z, _⟩ := q; cases z) (fun r h1 q _ => ?_))
  obtain ⟨code, v, q3, ⟨q4, q5, q6⟩, hR⟩ := q
  cases q3
  refine zJ_istore dL_law__1267 (Nat.le_of_ble_eq_true rfl) (by decide) ?_
  refine zJ_aload_n dL_law__1269 rfl ?_
  refine zJ_aload_n dL_law__1270 rfl ?_
  refine zJ_iload dL_law__1271 rfl ?_
  refine zJ_iconst (v := nI 1) dL_law__1273 rfl ?_
  refine zJ_iadd dL_law__1274 ?_
  refine sx_ag (n := n) (j := 1) hi hx (by omega) dL_law__1275 ?_
  refine zJ_aload_n dL_law__1276 rfl ?_
  refine zJ_iload dL_law__1277 rfl ?_
  refine zJ_iconst (v := nI 2) dL_law__1279 rfl ?_
  refine zJ_iadd dL_law__1280 ?_
  refine sx_ag (n := n) (j := 2) hi hx (by omega) dL_law__1281 ?_
  refine zJ_wid (kc := kc + 0) (ks := ks + 0) (by omega) (by omega) (zJ_callV [.int (ag Xi n 1), .int (ag Xi n 2)] [] lv_L_166 hR (zSt_ob q5 74 13 rfl).1 (zSt_ob q5 74 13 rfl).2 rfl (by omega) (Nat.le_of_ble_eq_true rfl) rfl dL_law__1282 (fun E h1 q _ => by obtain ⟨_, z, _⟩ := q; cases z) (fun r h2 q _ => ?_))
  obtain ⟨b, q7, q8, q9, q10, S1, q11⟩ := q
  cases q7
  refine zJ_istore dL_law__1285 (Nat.le_of_ble_eq_true rfl) (by decide) ?_
  refine zJ_aload_n dL_law__1287 rfl ?_
  refine zJ_wid (kc := kc + 0) (ks := ks + 0) (by omega) (by omega) (zJ_callV [] [] lv_L_109 (m_thrown (d := 50) (I := h2.1) (g := h2.2) hl (by omega) q11.1) (zSt_ob q11.1 74 13 rfl).1 (zSt_ob q11.1 74 13 rfl).2 rfl (by omega) (Nat.le_of_ble_eq_true rfl) rfl dL_law__1288 (fun E h1 q _ => by cases q.1) (fun r h3 q _ => ?_))
  obtain ⟨y1, y2⟩ := q
  cases y1
  subst y2
  refine zJ_iload dL_law__1291 rfl ?_
  refine zJ_icmp_eq 1298 dL_law__1293 (by decide) (fun _ => ?_) (fun z => absurd q10 z)
  refine zJ_iload dL_law__1298 rfl ?_
  refine zJ_if_ne 1315 dL_law__1300 (by decide) (fun _ => (zJ_goto 2132 dL_law__1315 (by decide) (zJ_back (zle_r (zle_r (zle_r (zle_r (zle_r (zle_n (zle_n zle_0))))))) rfl (kk h2 S1 q11)))) (fun z0 => ?_)
  refine zJ_aload_n dL_law__1303 rfl ?_
  refine zJ_iconst (v := nI 0) dL_law__1304 rfl ?_
  refine zJ_lald (a := 642) q11.2.1.1 q11.2.1.2 (vp_in_nI (n := 0) (by omega) (by omega)) dL_law__1305 ?_
  refine zJ_iload dL_law__1306 rfl ?_
  refine zJ_i2l dL_law__1308 ?_
  refine zJ_lcmp dL_law__1309 ?_
  have eL : h2.2.2.2.2 642 (nI 0).toNatClampNeg = v.toInt64 := by
    rw [q9]
    exact q6 z0
  refine zJ_if_eq 1315 dL_law__1310 (by decide) (fun _ => (zJ_goto 2132 dL_law__1315 (by decide) (zJ_back (zle_r (zle_r (zle_r (zle_r (zle_r (zle_n (zle_n zle_0))))))) rfl (kk h2 S1 q11)))) (fun z => absurd (by rw [eL, q8 z0]; exact lg_same _) z)
theorem cs_fewest (hl : l.stackTraces = false) {n : Nat} {S : sT} (hh : lvI n (I, g) S) (hn : n ≤ 520) (hi : 9 * n + 9 ≤ Xi.1) (hx : Xi.1 ≤ 4608) (kk : lvK l Xi kc ks n post) : zJ l Xi mL_law_ 60 (kc + 7) (ks + 600) 1318 (lL n none none) [] (I, g) post := by
  refine zJ_aload_n dL_law__1318 rfl ?_
  refine zJ_aload_n dL_law__1319 rfl ?_
  refine zJ_iload dL_law__1320 rfl ?_
  refine zJ_iconst (v := nI 1) dL_law__1322 rfl ?_
  refine zJ_iadd dL_law__1323 ?_
  refine sx_ag (n := n) (j := 1) hi hx (by omega) dL_law__1324 ?_
  refine zJ_aload_n dL_law__1325 rfl ?_
  obtain ⟨kc', ks', q1, q2, hC⟩ := p_fewest (Xi := Xi) hl hh hn (a1 := ag Xi n 1)
  refine zJ_wid (kc := kc + kc') (ks := ks + ks') (by omega) (by omega) (zJ_callSH [.ref 0, .int (ag Xi n 1), .ref 642] [] lsh_L_167 hC rfl (by omega) (Nat.le_of_ble_eq_true rfl) rfl dL_law__1326 (fun E h1 q _ => by obtain ⟨_, _, z, _⟩ := q; cases z) (fun r h1 q _ => ?_))
  obtain ⟨code, v, q3, ⟨q4, q5, q6⟩, hR⟩ := q
  cases q3
  refine zJ_istore dL_law__1329 (Nat.le_of_ble_eq_true rfl) (by decide) ?_
  refine zJ_aload_n dL_law__1331 rfl ?_
  refine zJ_aload_n dL_law__1332 rfl ?_
  refine zJ_iload dL_law__1333 rfl ?_
  refine zJ_iconst (v := nI 1) dL_law__1335 rfl ?_
  refine zJ_iadd dL_law__1336 ?_
  refine sx_ag (n := n) (j := 1) hi hx (by omega) dL_law__1337 ?_
  refine zJ_wid (kc := kc + 0) (ks := ks + 0) (by omega) (by omega) (zJ_callV [.int (ag Xi n 1)] [] lv_L_169 hR (zSt_ob q5 74 13 rfl).1 (zSt_ob q5 74 13 rfl).2 rfl (by omega) (Nat.le_of_ble_eq_true rfl) rfl dL_law__1338 (fun E h1 q _ => by obtain ⟨_, z, _⟩ := q; cases z) (fun r h2 q _ => ?_))
  obtain ⟨b, q7, q8, q9, q10, S1, q11⟩ := q
  cases q7
  refine zJ_istore dL_law__1341 (Nat.le_of_ble_eq_true rfl) (by decide) ?_
  refine zJ_aload_n dL_law__1343 rfl ?_
  refine zJ_wid (kc := kc + 0) (ks := ks + 0) (by omega) (by omega) (zJ_callV [] [] lv_L_109 (m_thrown (d := 50) (I := h2.1) (g := h2.2) hl (by omega) q11.1) (zSt_ob q11.1 74 13 rfl).1 (zSt_ob q11.1 74 13 rfl).2 rfl (by omega) (Nat.le_of_ble_eq_true rfl) rfl dL_law__1344 (fun E h1 q _ => by cases q.1) (fun r h3 q _ => ?_))
  obtain ⟨y1, y2⟩ := q
  cases y1
  subst y2
  refine zJ_iload dL_law__1347 rfl ?_
  refine zJ_icmp_eq 1354 dL_law__1349 (by decide) (fun _ => ?_) (fun z => absurd q10 z)
  refine zJ_iload dL_law__1354 rfl ?_
  refine zJ_if_ne 1371 dL_law__1356 (by decide) (fun _ => (zJ_goto 2132 dL_law__1371 (by decide) (zJ_back (zle_r (zle_r (zle_r (zle_r (zle_r (zle_n (zle_n zle_0))))))) rfl (kk h2 S1 q11)))) (fun z0 => ?_)
  refine zJ_aload_n dL_law__1359 rfl ?_
  refine zJ_iconst (v := nI 0) dL_law__1360 rfl ?_
  refine zJ_lald (a := 642) q11.2.1.1 q11.2.1.2 (vp_in_nI (n := 0) (by omega) (by omega)) dL_law__1361 ?_
  refine zJ_iload dL_law__1362 rfl ?_
  refine zJ_i2l dL_law__1364 ?_
  refine zJ_lcmp dL_law__1365 ?_
  have eL : h2.2.2.2.2 642 (nI 0).toNatClampNeg = v.toInt64 := by
    rw [q9]
    exact q6 z0
  refine zJ_if_eq 1371 dL_law__1366 (by decide) (fun _ => (zJ_goto 2132 dL_law__1371 (by decide) (zJ_back (zle_r (zle_r (zle_r (zle_r (zle_r (zle_n (zle_n zle_0))))))) rfl (kk h2 S1 q11)))) (fun z => absurd (by rw [eL, q8 z0]; exact lg_same _) z)
theorem cs_tree (hl : l.stackTraces = false) {n : Nat} {S : sT} (hh : lvI n (I, g) S) (hn : n ≤ 520) (hi : 9 * n + 9 ≤ Xi.1) (hx : Xi.1 ≤ 4608) (kk : lvK l Xi kc ks n post) : zJ l Xi mL_law_ 60 (kc + 7) (ks + 600) 1374 (lL n none none) [] (I, g) post := by
  refine zJ_aload_n dL_law__1374 rfl ?_
  refine zJ_aload_n dL_law__1375 rfl ?_
  refine zJ_iload dL_law__1376 rfl ?_
  refine zJ_iconst (v := nI 1) dL_law__1378 rfl ?_
  refine zJ_iadd dL_law__1379 ?_
  refine sx_ag (n := n) (j := 1) hi hx (by omega) dL_law__1380 ?_
  refine zJ_aload_n dL_law__1381 rfl ?_
  refine zJ_iload dL_law__1382 rfl ?_
  refine zJ_iconst (v := nI 2) dL_law__1384 rfl ?_
  refine zJ_iadd dL_law__1385 ?_
  refine sx_ag (n := n) (j := 2) hi hx (by omega) dL_law__1386 ?_
  refine zJ_aload_n dL_law__1387 rfl ?_
  obtain ⟨kc', ks', q1, q2, hC⟩ := p_tree (Xi := Xi) hl hh hn (a1 := ag Xi n 1) (a2 := ag Xi n 2)
  refine zJ_wid (kc := kc + kc') (ks := ks + ks') (by omega) (by omega) (zJ_callSH [.ref 0, .int (ag Xi n 1), .int (ag Xi n 2), .ref 642] [] lsh_L_170 hC rfl (by omega) (Nat.le_of_ble_eq_true rfl) rfl dL_law__1388 (fun E h1 q _ => by obtain ⟨_, _, z, _⟩ := q; cases z) (fun r h1 q _ => ?_))
  obtain ⟨code, v, q3, ⟨q4, q5, q6⟩, hR⟩ := q
  cases q3
  refine zJ_istore dL_law__1391 (Nat.le_of_ble_eq_true rfl) (by decide) ?_
  refine zJ_aload_n dL_law__1393 rfl ?_
  refine zJ_aload_n dL_law__1394 rfl ?_
  refine zJ_iload dL_law__1395 rfl ?_
  refine zJ_iconst (v := nI 1) dL_law__1397 rfl ?_
  refine zJ_iadd dL_law__1398 ?_
  refine sx_ag (n := n) (j := 1) hi hx (by omega) dL_law__1399 ?_
  refine zJ_aload_n dL_law__1400 rfl ?_
  refine zJ_iload dL_law__1401 rfl ?_
  refine zJ_iconst (v := nI 2) dL_law__1403 rfl ?_
  refine zJ_iadd dL_law__1404 ?_
  refine sx_ag (n := n) (j := 2) hi hx (by omega) dL_law__1405 ?_
  refine zJ_wid (kc := kc + 0) (ks := ks + 0) (by omega) (by omega) (zJ_callV [.int (ag Xi n 1), .int (ag Xi n 2)] [] lv_L_172 hR (zSt_ob q5 74 13 rfl).1 (zSt_ob q5 74 13 rfl).2 rfl (by omega) (Nat.le_of_ble_eq_true rfl) rfl dL_law__1406 (fun E h1 q _ => by obtain ⟨_, z, _⟩ := q; cases z) (fun r h2 q _ => ?_))
  obtain ⟨b, q7, q8, q9, q10, S1, q11⟩ := q
  cases q7
  refine zJ_istore dL_law__1409 (Nat.le_of_ble_eq_true rfl) (by decide) ?_
  refine zJ_aload_n dL_law__1411 rfl ?_
  refine zJ_wid (kc := kc + 0) (ks := ks + 0) (by omega) (by omega) (zJ_callV [] [] lv_L_109 (m_thrown (d := 50) (I := h2.1) (g := h2.2) hl (by omega) q11.1) (zSt_ob q11.1 74 13 rfl).1 (zSt_ob q11.1 74 13 rfl).2 rfl (by omega) (Nat.le_of_ble_eq_true rfl) rfl dL_law__1412 (fun E h1 q _ => by cases q.1) (fun r h3 q _ => ?_))
  obtain ⟨y1, y2⟩ := q
  cases y1
  subst y2
  refine zJ_iload dL_law__1415 rfl ?_
  refine zJ_icmp_eq 1422 dL_law__1417 (by decide) (fun _ => ?_) (fun z => absurd q10 z)
  refine zJ_iload dL_law__1422 rfl ?_
  refine zJ_if_ne 1439 dL_law__1424 (by decide) (fun _ => (zJ_goto 2132 dL_law__1439 (by decide) (zJ_back (zle_r (zle_r (zle_r (zle_r (zle_r (zle_n (zle_n zle_0))))))) rfl (kk h2 S1 q11)))) (fun z0 => ?_)
  refine zJ_aload_n dL_law__1427 rfl ?_
  refine zJ_iconst (v := nI 0) dL_law__1428 rfl ?_
  refine zJ_lald (a := 642) q11.2.1.1 q11.2.1.2 (vp_in_nI (n := 0) (by omega) (by omega)) dL_law__1429 ?_
  refine zJ_iload dL_law__1430 rfl ?_
  refine zJ_i2l dL_law__1432 ?_
  refine zJ_lcmp dL_law__1433 ?_
  have eL : h2.2.2.2.2 642 (nI 0).toNatClampNeg = v.toInt64 := by
    rw [q9]
    exact q6 z0
  refine zJ_if_eq 1439 dL_law__1434 (by decide) (fun _ => (zJ_goto 2132 dL_law__1439 (by decide) (zJ_back (zle_r (zle_r (zle_r (zle_r (zle_r (zle_n (zle_n zle_0))))))) rfl (kk h2 S1 q11)))) (fun z => absurd (by rw [eL, q8 z0]; exact lg_same _) z)
theorem cs_meet (hl : l.stackTraces = false) {n : Nat} {S : sT} (hh : lvI n (I, g) S) (hn : n ≤ 520) (hi : 9 * n + 9 ≤ Xi.1) (hx : Xi.1 ≤ 4608) (kk : lvK l Xi kc ks n post) : zJ l Xi mL_law_ 60 (kc + 7) (ks + 600) 1442 (lL n none none) [] (I, g) post := by
  refine zJ_aload_n dL_law__1442 rfl ?_
  refine zJ_aload_n dL_law__1443 rfl ?_
  refine zJ_iload dL_law__1444 rfl ?_
  refine zJ_iconst (v := nI 1) dL_law__1446 rfl ?_
  refine zJ_iadd dL_law__1447 ?_
  refine sx_ag (n := n) (j := 1) hi hx (by omega) dL_law__1448 ?_
  refine zJ_aload_n dL_law__1449 rfl ?_
  refine zJ_iload dL_law__1450 rfl ?_
  refine zJ_iconst (v := nI 2) dL_law__1452 rfl ?_
  refine zJ_iadd dL_law__1453 ?_
  refine sx_ag (n := n) (j := 2) hi hx (by omega) dL_law__1454 ?_
  refine zJ_aload_n dL_law__1455 rfl ?_
  obtain ⟨kc', ks', q1, q2, hC⟩ := p_meet (Xi := Xi) hl hh hn (a1 := ag Xi n 1) (a2 := ag Xi n 2)
  refine zJ_wid (kc := kc + kc') (ks := ks + ks') (by omega) (by omega) (zJ_callSH [.ref 0, .int (ag Xi n 1), .int (ag Xi n 2), .ref 642] [] lsh_L_173 hC rfl (by omega) (Nat.le_of_ble_eq_true rfl) rfl dL_law__1456 (fun E h1 q _ => by obtain ⟨_, _, z, _⟩ := q; cases z) (fun r h1 q _ => ?_))
  obtain ⟨code, v, q3, ⟨q4, q5, q6⟩, hR⟩ := q
  cases q3
  refine zJ_istore dL_law__1459 (Nat.le_of_ble_eq_true rfl) (by decide) ?_
  refine zJ_aload_n dL_law__1461 rfl ?_
  refine zJ_aload_n dL_law__1462 rfl ?_
  refine zJ_iload dL_law__1463 rfl ?_
  refine zJ_iconst (v := nI 1) dL_law__1465 rfl ?_
  refine zJ_iadd dL_law__1466 ?_
  refine sx_ag (n := n) (j := 1) hi hx (by omega) dL_law__1467 ?_
  refine zJ_aload_n dL_law__1468 rfl ?_
  refine zJ_iload dL_law__1469 rfl ?_
  refine zJ_iconst (v := nI 2) dL_law__1471 rfl ?_
  refine zJ_iadd dL_law__1472 ?_
  refine sx_ag (n := n) (j := 2) hi hx (by omega) dL_law__1473 ?_
  refine zJ_wid (kc := kc + 0) (ks := ks + 0) (by omega) (by omega) (zJ_callV [.int (ag Xi n 1), .int (ag Xi n 2)] [] lv_L_175 hR (zSt_ob q5 74 13 rfl).1 (zSt_ob q5 74 13 rfl).2 rfl (by omega) (Nat.le_of_ble_eq_true rfl) rfl dL_law__1474 (fun E h1 q _ => by obtain ⟨_, z, _⟩ := q; cases z) (fun r h2 q _ => ?_))
  obtain ⟨b, q7, q8, q9, q10, S1, q11⟩ := q
  cases q7
  refine zJ_istore dL_law__1477 (Nat.le_of_ble_eq_true rfl) (by decide) ?_
  refine zJ_aload_n dL_law__1479 rfl ?_
  refine zJ_wid (kc := kc + 0) (ks := ks + 0) (by omega) (by omega) (zJ_callV [] [] lv_L_109 (m_thrown (d := 50) (I := h2.1) (g := h2.2) hl (by omega) q11.1) (zSt_ob q11.1 74 13 rfl).1 (zSt_ob q11.1 74 13 rfl).2 rfl (by omega) (Nat.le_of_ble_eq_true rfl) rfl dL_law__1480 (fun E h1 q _ => by cases q.1) (fun r h3 q _ => ?_))
  obtain ⟨y1, y2⟩ := q
  cases y1
  subst y2
  refine zJ_iload dL_law__1483 rfl ?_
  refine zJ_icmp_eq 1490 dL_law__1485 (by decide) (fun _ => ?_) (fun z => absurd q10 z)
  refine zJ_iload dL_law__1490 rfl ?_
  refine zJ_if_ne 1507 dL_law__1492 (by decide) (fun _ => (zJ_goto 2132 dL_law__1507 (by decide) (zJ_back (zle_r (zle_r (zle_r (zle_r (zle_r (zle_n (zle_n zle_0))))))) rfl (kk h2 S1 q11)))) (fun z0 => ?_)
  refine zJ_aload_n dL_law__1495 rfl ?_
  refine zJ_iconst (v := nI 0) dL_law__1496 rfl ?_
  refine zJ_lald (a := 642) q11.2.1.1 q11.2.1.2 (vp_in_nI (n := 0) (by omega) (by omega)) dL_law__1497 ?_
  refine zJ_iload dL_law__1498 rfl ?_
  refine zJ_i2l dL_law__1500 ?_
  refine zJ_lcmp dL_law__1501 ?_
  have eL : h2.2.2.2.2 642 (nI 0).toNatClampNeg = v.toInt64 := by
    rw [q9]
    exact q6 z0
  refine zJ_if_eq 1507 dL_law__1502 (by decide) (fun _ => (zJ_goto 2132 dL_law__1507 (by decide) (zJ_back (zle_r (zle_r (zle_r (zle_r (zle_r (zle_n (zle_n zle_0))))))) rfl (kk h2 S1 q11)))) (fun z => absurd (by rw [eL, q8 z0]; exact lg_same _) z)
theorem cs_dear (hl : l.stackTraces = false) {n : Nat} {S : sT} (hh : lvI n (I, g) S) (hn : n ≤ 520) (hi : 9 * n + 9 ≤ Xi.1) (hx : Xi.1 ≤ 4608) (kk : lvK l Xi kc ks n post) : zJ l Xi mL_law_ 60 (kc + 7) (ks + 600) 1510 (lL n none none) [] (I, g) post := by
  refine zJ_aload_n dL_law__1510 rfl ?_
  refine zJ_aload_n dL_law__1511 rfl ?_
  refine zJ_iload dL_law__1512 rfl ?_
  refine zJ_iconst (v := nI 1) dL_law__1514 rfl ?_
  refine zJ_iadd dL_law__1515 ?_
  refine sx_ag (n := n) (j := 1) hi hx (by omega) dL_law__1516 ?_
  refine zJ_aload_n dL_law__1517 rfl ?_
  obtain ⟨kc', ks', q1, q2, hC⟩ := p_dear (Xi := Xi) hl hh hn (a1 := ag Xi n 1)
  refine zJ_wid (kc := kc + kc') (ks := ks + ks') (by omega) (by omega) (zJ_callSH [.ref 0, .int (ag Xi n 1), .ref 642] [] lsh_L_176 hC rfl (by omega) (Nat.le_of_ble_eq_true rfl) rfl dL_law__1518 (fun E h1 q _ => by obtain ⟨_, _, z, _⟩ := q; cases z) (fun r h1 q _ => ?_))
  obtain ⟨code, v, q3, ⟨q4, q5, q6⟩, hR⟩ := q
  cases q3
  refine zJ_istore dL_law__1521 (Nat.le_of_ble_eq_true rfl) (by decide) ?_
  refine zJ_aload_n dL_law__1523 rfl ?_
  refine zJ_aload_n dL_law__1524 rfl ?_
  refine zJ_iload dL_law__1525 rfl ?_
  refine zJ_iconst (v := nI 1) dL_law__1527 rfl ?_
  refine zJ_iadd dL_law__1528 ?_
  refine sx_ag (n := n) (j := 1) hi hx (by omega) dL_law__1529 ?_
  refine zJ_wid (kc := kc + 0) (ks := ks + 0) (by omega) (by omega) (zJ_callV [.int (ag Xi n 1)] [] lv_L_178 hR (zSt_ob q5 74 13 rfl).1 (zSt_ob q5 74 13 rfl).2 rfl (by omega) (Nat.le_of_ble_eq_true rfl) rfl dL_law__1530 (fun E h1 q _ => by obtain ⟨_, z, _⟩ := q; cases z) (fun r h2 q _ => ?_))
  obtain ⟨b, q7, q8, q9, q10, S1, q11⟩ := q
  cases q7
  refine zJ_istore dL_law__1533 (Nat.le_of_ble_eq_true rfl) (by decide) ?_
  refine zJ_aload_n dL_law__1535 rfl ?_
  refine zJ_wid (kc := kc + 0) (ks := ks + 0) (by omega) (by omega) (zJ_callV [] [] lv_L_109 (m_thrown (d := 50) (I := h2.1) (g := h2.2) hl (by omega) q11.1) (zSt_ob q11.1 74 13 rfl).1 (zSt_ob q11.1 74 13 rfl).2 rfl (by omega) (Nat.le_of_ble_eq_true rfl) rfl dL_law__1536 (fun E h1 q _ => by cases q.1) (fun r h3 q _ => ?_))
  obtain ⟨y1, y2⟩ := q
  cases y1
  subst y2
  refine zJ_iload dL_law__1539 rfl ?_
  refine zJ_icmp_eq 1546 dL_law__1541 (by decide) (fun _ => ?_) (fun z => absurd q10 z)
  refine zJ_iload dL_law__1546 rfl ?_
  refine zJ_if_ne 1563 dL_law__1548 (by decide) (fun _ => (zJ_goto 2132 dL_law__1563 (by decide) (zJ_back (zle_r (zle_r (zle_r (zle_r (zle_r (zle_n (zle_n zle_0))))))) rfl (kk h2 S1 q11)))) (fun z0 => ?_)
  refine zJ_aload_n dL_law__1551 rfl ?_
  refine zJ_iconst (v := nI 0) dL_law__1552 rfl ?_
  refine zJ_lald (a := 642) q11.2.1.1 q11.2.1.2 (vp_in_nI (n := 0) (by omega) (by omega)) dL_law__1553 ?_
  refine zJ_iload dL_law__1554 rfl ?_
  refine zJ_i2l dL_law__1556 ?_
  refine zJ_lcmp dL_law__1557 ?_
  have eL : h2.2.2.2.2 642 (nI 0).toNatClampNeg = v.toInt64 := by
    rw [q9]
    exact q6 z0
  refine zJ_if_eq 1563 dL_law__1558 (by decide) (fun _ => (zJ_goto 2132 dL_law__1563 (by decide) (zJ_back (zle_r (zle_r (zle_r (zle_r (zle_r (zle_n (zle_n zle_0))))))) rfl (kk h2 S1 q11)))) (fun z => absurd (by rw [eL, q8 z0]; exact lg_same _) z)
theorem cs_shed (hl : l.stackTraces = false) {n : Nat} {S : sT} (hh : lvI n (I, g) S) (hn : n ≤ 520) (hi : 9 * n + 9 ≤ Xi.1) (hx : Xi.1 ≤ 4608) (kk : lvK l Xi kc ks n post) : zJ l Xi mL_law_ 60 (kc + 7) (ks + 600) 1566 (lL n none none) [] (I, g) post := by
  refine zJ_aload_n dL_law__1566 rfl ?_
  refine zJ_aload_n dL_law__1567 rfl ?_
  refine zJ_iload dL_law__1568 rfl ?_
  refine zJ_iconst (v := nI 1) dL_law__1570 rfl ?_
  refine zJ_iadd dL_law__1571 ?_
  refine sx_ag (n := n) (j := 1) hi hx (by omega) dL_law__1572 ?_
  refine zJ_aload_n dL_law__1573 rfl ?_
  obtain ⟨kc', ks', q1, q2, hC⟩ := p_shed (Xi := Xi) hl hh hn (a1 := ag Xi n 1)
  refine zJ_wid (kc := kc + kc') (ks := ks + ks') (by omega) (by omega) (zJ_callSH [.ref 0, .int (ag Xi n 1), .ref 642] [] lsh_L_179 hC rfl (by omega) (Nat.le_of_ble_eq_true rfl) rfl dL_law__1574 (fun E h1 q _ => by obtain ⟨_, _, z, _⟩ := q; cases z) (fun r h1 q _ => ?_))
  obtain ⟨code, v, q3, ⟨q4, q5, q6⟩, hR⟩ := q
  cases q3
  refine zJ_istore dL_law__1577 (Nat.le_of_ble_eq_true rfl) (by decide) ?_
  refine zJ_aload_n dL_law__1579 rfl ?_
  refine zJ_aload_n dL_law__1580 rfl ?_
  refine zJ_iload dL_law__1581 rfl ?_
  refine zJ_iconst (v := nI 1) dL_law__1583 rfl ?_
  refine zJ_iadd dL_law__1584 ?_
  refine sx_ag (n := n) (j := 1) hi hx (by omega) dL_law__1585 ?_
  refine zJ_wid (kc := kc + 0) (ks := ks + 0) (by omega) (by omega) (zJ_callV [.int (ag Xi n 1)] [] lv_L_181 hR (zSt_ob q5 74 13 rfl).1 (zSt_ob q5 74 13 rfl).2 rfl (by omega) (Nat.le_of_ble_eq_true rfl) rfl dL_law__1586 (fun E h1 q _ => by obtain ⟨_, z, _⟩ := q; cases z) (fun r h2 q _ => ?_))
  obtain ⟨b, q7, q8, q9, q10, S1, q11⟩ := q
  cases q7
  refine zJ_istore dL_law__1589 (Nat.le_of_ble_eq_true rfl) (by decide) ?_
  refine zJ_aload_n dL_law__1591 rfl ?_
  refine zJ_wid (kc := kc + 0) (ks := ks + 0) (by omega) (by omega) (zJ_callV [] [] lv_L_109 (m_thrown (d := 50) (I := h2.1) (g := h2.2) hl (by omega) q11.1) (zSt_ob q11.1 74 13 rfl).1 (zSt_ob q11.1 74 13 rfl).2 rfl (by omega) (Nat.le_of_ble_eq_true rfl) rfl dL_law__1592 (fun E h1 q _ => by cases q.1) (fun r h3 q _ => ?_))
  obtain ⟨y1, y2⟩ := q
  cases y1
  subst y2
  refine zJ_iload dL_law__1595 rfl ?_
  refine zJ_icmp_eq 1602 dL_law__1597 (by decide) (fun _ => ?_) (fun z => absurd q10 z)
  refine zJ_iload dL_law__1602 rfl ?_
  refine zJ_if_ne 1619 dL_law__1604 (by decide) (fun _ => (zJ_goto 2132 dL_law__1619 (by decide) (zJ_back (zle_r (zle_r (zle_r (zle_r (zle_r (zle_n (zle_n zle_0))))))) rfl (kk h2 S1 q11)))) (fun z0 => ?_)
  refine zJ_aload_n dL_law__1607 rfl ?_
  refine zJ_iconst (v := nI 0) dL_law__1608 rfl ?_
  refine zJ_lald (a := 642) q11.2.1.1 q11.2.1.2 (vp_in_nI (n := 0) (by omega) (by omega)) dL_law__1609 ?_
  refine zJ_iload dL_law__1610 rfl ?_
  refine zJ_i2l dL_law__1612 ?_
  refine zJ_lcmp dL_law__1613 ?_
  have eL : h2.2.2.2.2 642 (nI 0).toNatClampNeg = v.toInt64 := by
    rw [q9]
    exact q6 z0
  refine zJ_if_eq 1619 dL_law__1614 (by decide) (fun _ => (zJ_goto 2132 dL_law__1619 (by decide) (zJ_back (zle_r (zle_r (zle_r (zle_r (zle_r (zle_n (zle_n zle_0))))))) rfl (kk h2 S1 q11)))) (fun z => absurd (by rw [eL, q8 z0]; exact lg_same _) z)
theorem cs_fits (hl : l.stackTraces = false) {n : Nat} {S : sT} (hh : lvI n (I, g) S) (hn : n ≤ 520) (hi : 9 * n + 9 ≤ Xi.1) (hx : Xi.1 ≤ 4608) (kk : lvK l Xi kc ks n post) : zJ l Xi mL_law_ 60 (kc + 7) (ks + 600) 1622 (lL n none none) [] (I, g) post := by
  refine zJ_aload_n dL_law__1622 rfl ?_
  refine zJ_aload_n dL_law__1623 rfl ?_
  refine zJ_iload dL_law__1624 rfl ?_
  refine zJ_iconst (v := nI 1) dL_law__1626 rfl ?_
  refine zJ_iadd dL_law__1627 ?_
  refine sx_ag (n := n) (j := 1) hi hx (by omega) dL_law__1628 ?_
  refine zJ_aload_n dL_law__1629 rfl ?_
  obtain ⟨kc', ks', q1, q2, hC⟩ := p_fits (Xi := Xi) hl hh hn (a1 := ag Xi n 1)
  refine zJ_wid (kc := kc + kc') (ks := ks + ks') (by omega) (by omega) (zJ_callSH [.ref 0, .int (ag Xi n 1), .ref 642] [] lsh_L_182 hC rfl (by omega) (Nat.le_of_ble_eq_true rfl) rfl dL_law__1630 (fun E h1 q _ => by obtain ⟨_, _, z, _⟩ := q; cases z) (fun r h1 q _ => ?_))
  obtain ⟨code, v, q3, ⟨q4, q5, q6⟩, hR⟩ := q
  cases q3
  refine zJ_istore dL_law__1633 (Nat.le_of_ble_eq_true rfl) (by decide) ?_
  refine zJ_aload_n dL_law__1635 rfl ?_
  refine zJ_aload_n dL_law__1636 rfl ?_
  refine zJ_iload dL_law__1637 rfl ?_
  refine zJ_iconst (v := nI 1) dL_law__1639 rfl ?_
  refine zJ_iadd dL_law__1640 ?_
  refine sx_ag (n := n) (j := 1) hi hx (by omega) dL_law__1641 ?_
  refine zJ_wid (kc := kc + 0) (ks := ks + 0) (by omega) (by omega) (zJ_callV [.int (ag Xi n 1)] [] lv_L_184 hR (zSt_ob q5 74 13 rfl).1 (zSt_ob q5 74 13 rfl).2 rfl (by omega) (Nat.le_of_ble_eq_true rfl) rfl dL_law__1642 (fun E h1 q _ => by obtain ⟨_, z, _⟩ := q; cases z) (fun r h2 q _ => ?_))
  obtain ⟨b, q7, q8, q9, q10, S1, q11⟩ := q
  cases q7
  refine zJ_istore dL_law__1645 (Nat.le_of_ble_eq_true rfl) (by decide) ?_
  refine zJ_aload_n dL_law__1647 rfl ?_
  refine zJ_wid (kc := kc + 0) (ks := ks + 0) (by omega) (by omega) (zJ_callV [] [] lv_L_109 (m_thrown (d := 50) (I := h2.1) (g := h2.2) hl (by omega) q11.1) (zSt_ob q11.1 74 13 rfl).1 (zSt_ob q11.1 74 13 rfl).2 rfl (by omega) (Nat.le_of_ble_eq_true rfl) rfl dL_law__1648 (fun E h1 q _ => by cases q.1) (fun r h3 q _ => ?_))
  obtain ⟨y1, y2⟩ := q
  cases y1
  subst y2
  refine zJ_iload dL_law__1651 rfl ?_
  refine zJ_icmp_eq 1658 dL_law__1653 (by decide) (fun _ => ?_) (fun z => absurd q10 z)
  refine zJ_iload dL_law__1658 rfl ?_
  refine zJ_if_ne 1675 dL_law__1660 (by decide) (fun _ => (zJ_goto 2132 dL_law__1675 (by decide) (zJ_back (zle_r (zle_r (zle_r (zle_r (zle_r (zle_n (zle_n zle_0))))))) rfl (kk h2 S1 q11)))) (fun z0 => ?_)
  refine zJ_aload_n dL_law__1663 rfl ?_
  refine zJ_iconst (v := nI 0) dL_law__1664 rfl ?_
  refine zJ_lald (a := 642) q11.2.1.1 q11.2.1.2 (vp_in_nI (n := 0) (by omega) (by omega)) dL_law__1665 ?_
  refine zJ_iload dL_law__1666 rfl ?_
  refine zJ_i2l dL_law__1668 ?_
  refine zJ_lcmp dL_law__1669 ?_
  have eL : h2.2.2.2.2 642 (nI 0).toNatClampNeg = v.toInt64 := by
    rw [q9]
    exact q6 z0
  refine zJ_if_eq 1675 dL_law__1670 (by decide) (fun _ => (zJ_goto 2132 dL_law__1675 (by decide) (zJ_back (zle_r (zle_r (zle_r (zle_r (zle_r (zle_n (zle_n zle_0))))))) rfl (kk h2 S1 q11)))) (fun z => absurd (by rw [eL, q8 z0]; exact lg_same _) z)
theorem cs_look (hl : l.stackTraces = false) {n : Nat} {S : sT} (hh : lvI n (I, g) S) (hn : n ≤ 520) (hi : 9 * n + 9 ≤ Xi.1) (hx : Xi.1 ≤ 4608) (kk : lvK l Xi kc ks n post) : zJ l Xi mL_law_ 60 (kc + 7) (ks + 600) 1678 (lL n none none) [] (I, g) post := by
  refine zJ_aload_n dL_law__1678 rfl ?_
  refine zJ_aload_n dL_law__1679 rfl ?_
  refine zJ_iload dL_law__1680 rfl ?_
  refine zJ_iconst (v := nI 1) dL_law__1682 rfl ?_
  refine zJ_iadd dL_law__1683 ?_
  refine sx_ag (n := n) (j := 1) hi hx (by omega) dL_law__1684 ?_
  refine zJ_aload_n dL_law__1685 rfl ?_
  obtain ⟨kc', ks', q1, q2, hC⟩ := p_look (Xi := Xi) hl hh hn (a1 := ag Xi n 1)
  refine zJ_wid (kc := kc + kc') (ks := ks + ks') (by omega) (by omega) (zJ_callSH [.ref 0, .int (ag Xi n 1), .ref 642] [] lsh_L_185 hC rfl (by omega) (Nat.le_of_ble_eq_true rfl) rfl dL_law__1686 (fun E h1 q _ => by obtain ⟨_, _, z, _⟩ := q; cases z) (fun r h1 q _ => ?_))
  obtain ⟨code, v, q3, ⟨q4, q5, q6⟩, hR⟩ := q
  cases q3
  refine zJ_istore dL_law__1689 (Nat.le_of_ble_eq_true rfl) (by decide) ?_
  refine zJ_aload_n dL_law__1691 rfl ?_
  refine zJ_aload_n dL_law__1692 rfl ?_
  refine zJ_iload dL_law__1693 rfl ?_
  refine zJ_iconst (v := nI 1) dL_law__1695 rfl ?_
  refine zJ_iadd dL_law__1696 ?_
  refine sx_ag (n := n) (j := 1) hi hx (by omega) dL_law__1697 ?_
  refine zJ_wid (kc := kc + 0) (ks := ks + 0) (by omega) (by omega) (zJ_callV [.int (ag Xi n 1)] [] lv_L_187 hR (zSt_ob q5 74 13 rfl).1 (zSt_ob q5 74 13 rfl).2 rfl (by omega) (Nat.le_of_ble_eq_true rfl) rfl dL_law__1698 (fun E h1 q _ => by obtain ⟨_, z, _⟩ := q; cases z) (fun r h2 q _ => ?_))
  obtain ⟨b, q7, q8, q9, q10, S1, q11⟩ := q
  cases q7
  refine zJ_istore dL_law__1701 (Nat.le_of_ble_eq_true rfl) (by decide) ?_
  refine zJ_aload_n dL_law__1703 rfl ?_
  refine zJ_wid (kc := kc + 0) (ks := ks + 0) (by omega) (by omega) (zJ_callV [] [] lv_L_109 (m_thrown (d := 50) (I := h2.1) (g := h2.2) hl (by omega) q11.1) (zSt_ob q11.1 74 13 rfl).1 (zSt_ob q11.1 74 13 rfl).2 rfl (by omega) (Nat.le_of_ble_eq_true rfl) rfl dL_law__1704 (fun E h1 q _ => by cases q.1) (fun r h3 q _ => ?_))
  obtain ⟨y1, y2⟩ := q
  cases y1
  subst y2
  refine zJ_iload dL_law__1707 rfl ?_
  refine zJ_icmp_eq 1714 dL_law__1709 (by decide) (fun _ => ?_) (fun z => absurd q10 z)
  refine zJ_iload dL_law__1714 rfl ?_
  refine zJ_if_ne 1731 dL_law__1716 (by decide) (fun _ => (zJ_goto 2132 dL_law__1731 (by decide) (zJ_back (zle_r (zle_r (zle_r (zle_r (zle_r (zle_n (zle_n zle_0))))))) rfl (kk h2 S1 q11)))) (fun z0 => ?_)
  refine zJ_aload_n dL_law__1719 rfl ?_
  refine zJ_iconst (v := nI 0) dL_law__1720 rfl ?_
  refine zJ_lald (a := 642) q11.2.1.1 q11.2.1.2 (vp_in_nI (n := 0) (by omega) (by omega)) dL_law__1721 ?_
  refine zJ_iload dL_law__1722 rfl ?_
  refine zJ_i2l dL_law__1724 ?_
  refine zJ_lcmp dL_law__1725 ?_
  have eL : h2.2.2.2.2 642 (nI 0).toNatClampNeg = v.toInt64 := by
    rw [q9]
    exact q6 z0
  refine zJ_if_eq 1731 dL_law__1726 (by decide) (fun _ => (zJ_goto 2132 dL_law__1731 (by decide) (zJ_back (zle_r (zle_r (zle_r (zle_r (zle_r (zle_n (zle_n zle_0))))))) rfl (kk h2 S1 q11)))) (fun z => absurd (by rw [eL, q8 z0]; exact lg_same _) z)
theorem cs_crowd (hl : l.stackTraces = false) {n : Nat} {S : sT} (hh : lvI n (I, g) S) (hn : n ≤ 520) (hi : 9 * n + 9 ≤ Xi.1) (hx : Xi.1 ≤ 4608) (kk : lvK l Xi kc ks n post) : zJ l Xi mL_law_ 60 (kc + 7) (ks + 600) 1734 (lL n none none) [] (I, g) post := by
  refine zJ_aload_n dL_law__1734 rfl ?_
  refine zJ_aload_n dL_law__1735 rfl ?_
  refine zJ_iload dL_law__1736 rfl ?_
  refine zJ_iconst (v := nI 1) dL_law__1738 rfl ?_
  refine zJ_iadd dL_law__1739 ?_
  refine sx_ag (n := n) (j := 1) hi hx (by omega) dL_law__1740 ?_
  refine zJ_aload_n dL_law__1741 rfl ?_
  obtain ⟨kc', ks', q1, q2, hC⟩ := p_crowd (Xi := Xi) hl hh hn (a1 := ag Xi n 1)
  refine zJ_wid (kc := kc + kc') (ks := ks + ks') (by omega) (by omega) (zJ_callSH [.ref 0, .int (ag Xi n 1), .ref 642] [] lsh_L_188 hC rfl (by omega) (Nat.le_of_ble_eq_true rfl) rfl dL_law__1742 (fun E h1 q _ => by obtain ⟨_, _, z, _⟩ := q; cases z) (fun r h1 q _ => ?_))
  obtain ⟨code, v, q3, ⟨q4, q5, q6⟩, hR⟩ := q
  cases q3
  refine zJ_istore dL_law__1745 (Nat.le_of_ble_eq_true rfl) (by decide) ?_
  refine zJ_aload_n dL_law__1747 rfl ?_
  refine zJ_aload_n dL_law__1748 rfl ?_
  refine zJ_iload dL_law__1749 rfl ?_
  refine zJ_iconst (v := nI 1) dL_law__1751 rfl ?_
  refine zJ_iadd dL_law__1752 ?_
  refine sx_ag (n := n) (j := 1) hi hx (by omega) dL_law__1753 ?_
  refine zJ_wid (kc := kc + 0) (ks := ks + 0) (by omega) (by omega) (zJ_callV [.int (ag Xi n 1)] [] lv_L_190 hR (zSt_ob q5 74 13 rfl).1 (zSt_ob q5 74 13 rfl).2 rfl (by omega) (Nat.le_of_ble_eq_true rfl) rfl dL_law__1754 (fun E h1 q _ => by obtain ⟨_, z, _⟩ := q; cases z) (fun r h2 q _ => ?_))
  obtain ⟨b, q7, q8, q9, q10, S1, q11⟩ := q
  cases q7
  refine zJ_istore dL_law__1757 (Nat.le_of_ble_eq_true rfl) (by decide) ?_
  refine zJ_aload_n dL_law__1759 rfl ?_
  refine zJ_wid (kc := kc + 0) (ks := ks + 0) (by omega) (by omega) (zJ_callV [] [] lv_L_109 (m_thrown (d := 50) (I := h2.1) (g := h2.2) hl (by omega) q11.1) (zSt_ob q11.1 74 13 rfl).1 (zSt_ob q11.1 74 13 rfl).2 rfl (by omega) (Nat.le_of_ble_eq_true rfl) rfl dL_law__1760 (fun E h1 q _ => by cases q.1) (fun r h3 q _ => ?_))
  obtain ⟨y1, y2⟩ := q
  cases y1
  subst y2
  refine zJ_iload dL_law__1763 rfl ?_
  refine zJ_icmp_eq 1770 dL_law__1765 (by decide) (fun _ => ?_) (fun z => absurd q10 z)
  refine zJ_iload dL_law__1770 rfl ?_
  refine zJ_if_ne 1787 dL_law__1772 (by decide) (fun _ => (zJ_goto 2132 dL_law__1787 (by decide) (zJ_back (zle_r (zle_r (zle_r (zle_r (zle_r (zle_n (zle_n zle_0))))))) rfl (kk h2 S1 q11)))) (fun z0 => ?_)
  refine zJ_aload_n dL_law__1775 rfl ?_
  refine zJ_iconst (v := nI 0) dL_law__1776 rfl ?_
  refine zJ_lald (a := 642) q11.2.1.1 q11.2.1.2 (vp_in_nI (n := 0) (by omega) (by omega)) dL_law__1777 ?_
  refine zJ_iload dL_law__1778 rfl ?_
  refine zJ_i2l dL_law__1780 ?_
  refine zJ_lcmp dL_law__1781 ?_
  have eL : h2.2.2.2.2 642 (nI 0).toNatClampNeg = v.toInt64 := by
    rw [q9]
    exact q6 z0
  refine zJ_if_eq 1787 dL_law__1782 (by decide) (fun _ => (zJ_goto 2132 dL_law__1787 (by decide) (zJ_back (zle_r (zle_r (zle_r (zle_r (zle_r (zle_n (zle_n zle_0))))))) rfl (kk h2 S1 q11)))) (fun z => absurd (by rw [eL, q8 z0]; exact lg_same _) z)
theorem cs_tight (hl : l.stackTraces = false) {n : Nat} {S : sT} (hh : lvI n (I, g) S) (hn : n ≤ 520) (hi : 9 * n + 9 ≤ Xi.1) (hx : Xi.1 ≤ 4608) (kk : lvK l Xi kc ks n post) : zJ l Xi mL_law_ 60 (kc + 7) (ks + 600) 1790 (lL n none none) [] (I, g) post := by
  refine zJ_aload_n dL_law__1790 rfl ?_
  refine zJ_aload_n dL_law__1791 rfl ?_
  refine zJ_iload dL_law__1792 rfl ?_
  refine zJ_iconst (v := nI 1) dL_law__1794 rfl ?_
  refine zJ_iadd dL_law__1795 ?_
  refine sx_ag (n := n) (j := 1) hi hx (by omega) dL_law__1796 ?_
  refine zJ_aload_n dL_law__1797 rfl ?_
  obtain ⟨kc', ks', q1, q2, hC⟩ := p_tight (Xi := Xi) hl hh hn (a1 := ag Xi n 1)
  refine zJ_wid (kc := kc + kc') (ks := ks + ks') (by omega) (by omega) (zJ_callSH [.ref 0, .int (ag Xi n 1), .ref 642] [] lsh_L_191 hC rfl (by omega) (Nat.le_of_ble_eq_true rfl) rfl dL_law__1798 (fun E h1 q _ => by obtain ⟨_, _, z, _⟩ := q; cases z) (fun r h1 q _ => ?_))
  obtain ⟨code, v, q3, ⟨q4, q5, q6⟩, hR⟩ := q
  cases q3
  refine zJ_istore dL_law__1801 (Nat.le_of_ble_eq_true rfl) (by decide) ?_
  refine zJ_aload_n dL_law__1803 rfl ?_
  refine zJ_aload_n dL_law__1804 rfl ?_
  refine zJ_iload dL_law__1805 rfl ?_
  refine zJ_iconst (v := nI 1) dL_law__1807 rfl ?_
  refine zJ_iadd dL_law__1808 ?_
  refine sx_ag (n := n) (j := 1) hi hx (by omega) dL_law__1809 ?_
  refine zJ_wid (kc := kc + 0) (ks := ks + 0) (by omega) (by omega) (zJ_callV [.int (ag Xi n 1)] [] lv_L_193 hR (zSt_ob q5 74 13 rfl).1 (zSt_ob q5 74 13 rfl).2 rfl (by omega) (Nat.le_of_ble_eq_true rfl) rfl dL_law__1810 (fun E h1 q _ => by obtain ⟨_, z, _⟩ := q; cases z) (fun r h2 q _ => ?_))
  obtain ⟨b, q7, q8, q9, q10, S1, q11⟩ := q
  cases q7
  refine zJ_istore dL_law__1813 (Nat.le_of_ble_eq_true rfl) (by decide) ?_
  refine zJ_aload_n dL_law__1815 rfl ?_
  refine zJ_wid (kc := kc + 0) (ks := ks + 0) (by omega) (by omega) (zJ_callV [] [] lv_L_109 (m_thrown (d := 50) (I := h2.1) (g := h2.2) hl (by omega) q11.1) (zSt_ob q11.1 74 13 rfl).1 (zSt_ob q11.1 74 13 rfl).2 rfl (by omega) (Nat.le_of_ble_eq_true rfl) rfl dL_law__1816 (fun E h1 q _ => by cases q.1) (fun r h3 q _ => ?_))
  obtain ⟨y1, y2⟩ := q
  cases y1
  subst y2
  refine zJ_iload dL_law__1819 rfl ?_
  refine zJ_icmp_eq 1826 dL_law__1821 (by decide) (fun _ => ?_) (fun z => absurd q10 z)
  refine zJ_iload dL_law__1826 rfl ?_
  refine zJ_if_ne 1843 dL_law__1828 (by decide) (fun _ => (zJ_goto 2132 dL_law__1843 (by decide) (zJ_back (zle_r (zle_r (zle_r (zle_r (zle_r (zle_n (zle_n zle_0))))))) rfl (kk h2 S1 q11)))) (fun z0 => ?_)
  refine zJ_aload_n dL_law__1831 rfl ?_
  refine zJ_iconst (v := nI 0) dL_law__1832 rfl ?_
  refine zJ_lald (a := 642) q11.2.1.1 q11.2.1.2 (vp_in_nI (n := 0) (by omega) (by omega)) dL_law__1833 ?_
  refine zJ_iload dL_law__1834 rfl ?_
  refine zJ_i2l dL_law__1836 ?_
  refine zJ_lcmp dL_law__1837 ?_
  have eL : h2.2.2.2.2 642 (nI 0).toNatClampNeg = v.toInt64 := by
    rw [q9]
    exact q6 z0
  refine zJ_if_eq 1843 dL_law__1838 (by decide) (fun _ => (zJ_goto 2132 dL_law__1843 (by decide) (zJ_back (zle_r (zle_r (zle_r (zle_r (zle_r (zle_n (zle_n zle_0))))))) rfl (kk h2 S1 q11)))) (fun z => absurd (by rw [eL, q8 z0]; exact lg_same _) z)
theorem cs_season (hl : l.stackTraces = false) {n : Nat} {S : sT} (hh : lvI n (I, g) S) (hn : n ≤ 520) (hi : 9 * n + 9 ≤ Xi.1) (hx : Xi.1 ≤ 4608) (kk : lvK l Xi kc ks n post) : zJ l Xi mL_law_ 60 (kc + 7) (ks + 600) 1846 (lL n none none) [] (I, g) post := by
  refine zJ_aload_n dL_law__1846 rfl ?_
  refine zJ_aload_n dL_law__1847 rfl ?_
  refine zJ_iload dL_law__1848 rfl ?_
  refine zJ_iconst (v := nI 1) dL_law__1850 rfl ?_
  refine zJ_iadd dL_law__1851 ?_
  refine sx_ag (n := n) (j := 1) hi hx (by omega) dL_law__1852 ?_
  refine zJ_aload_n dL_law__1853 rfl ?_
  refine zJ_iload dL_law__1854 rfl ?_
  refine zJ_iconst (v := nI 2) dL_law__1856 rfl ?_
  refine zJ_iadd dL_law__1857 ?_
  refine sx_ag (n := n) (j := 2) hi hx (by omega) dL_law__1858 ?_
  refine zJ_aload_n dL_law__1859 rfl ?_
  refine zJ_iload dL_law__1860 rfl ?_
  refine zJ_iconst (v := nI 3) dL_law__1862 rfl ?_
  refine zJ_iadd dL_law__1863 ?_
  refine sx_ag (n := n) (j := 3) hi hx (by omega) dL_law__1864 ?_
  refine zJ_aload_n dL_law__1865 rfl ?_
  refine zJ_iload dL_law__1866 rfl ?_
  refine zJ_iconst (v := nI 4) dL_law__1868 rfl ?_
  refine zJ_iadd dL_law__1869 ?_
  refine sx_ag (n := n) (j := 4) hi hx (by omega) dL_law__1870 ?_
  refine zJ_aload_n dL_law__1871 rfl ?_
  obtain ⟨kc', ks', q1, q2, hC⟩ := p_season (Xi := Xi) hl hh hn (a1 := ag Xi n 1) (a2 := ag Xi n 2) (a3 := ag Xi n 3) (a4 := ag Xi n 4)
  refine zJ_wid (kc := kc + kc') (ks := ks + ks') (by omega) (by omega) (zJ_callSH [.ref 0, .int (ag Xi n 1), .int (ag Xi n 2), .int (ag Xi n 3), .int (ag Xi n 4), .ref 642] [] lsh_L_194 hC rfl (by omega) (Nat.le_of_ble_eq_true rfl) rfl dL_law__1872 (fun E h1 q _ => by obtain ⟨_, _, z, _⟩ := q; cases z) (fun r h1 q _ => ?_))
  obtain ⟨code, v, q3, ⟨q4, q5, q6⟩, hR⟩ := q
  cases q3
  refine zJ_istore dL_law__1875 (Nat.le_of_ble_eq_true rfl) (by decide) ?_
  refine zJ_aload_n dL_law__1877 rfl ?_
  refine zJ_aload_n dL_law__1878 rfl ?_
  refine zJ_iload dL_law__1879 rfl ?_
  refine zJ_iconst (v := nI 1) dL_law__1881 rfl ?_
  refine zJ_iadd dL_law__1882 ?_
  refine sx_ag (n := n) (j := 1) hi hx (by omega) dL_law__1883 ?_
  refine zJ_aload_n dL_law__1884 rfl ?_
  refine zJ_iload dL_law__1885 rfl ?_
  refine zJ_iconst (v := nI 2) dL_law__1887 rfl ?_
  refine zJ_iadd dL_law__1888 ?_
  refine sx_ag (n := n) (j := 2) hi hx (by omega) dL_law__1889 ?_
  refine zJ_aload_n dL_law__1890 rfl ?_
  refine zJ_iload dL_law__1891 rfl ?_
  refine zJ_iconst (v := nI 3) dL_law__1893 rfl ?_
  refine zJ_iadd dL_law__1894 ?_
  refine sx_ag (n := n) (j := 3) hi hx (by omega) dL_law__1895 ?_
  refine zJ_aload_n dL_law__1896 rfl ?_
  refine zJ_iload dL_law__1897 rfl ?_
  refine zJ_iconst (v := nI 4) dL_law__1899 rfl ?_
  refine zJ_iadd dL_law__1900 ?_
  refine sx_ag (n := n) (j := 4) hi hx (by omega) dL_law__1901 ?_
  refine zJ_wid (kc := kc + 0) (ks := ks + 0) (by omega) (by omega) (zJ_callV [.int (ag Xi n 1), .int (ag Xi n 2), .int (ag Xi n 3), .int (ag Xi n 4)] [] lv_L_197 hR (zSt_ob q5 74 13 rfl).1 (zSt_ob q5 74 13 rfl).2 rfl (by omega) (Nat.le_of_ble_eq_true rfl) rfl dL_law__1902 (fun E h1 q _ => by obtain ⟨_, z, _⟩ := q; cases z) (fun r h2 q _ => ?_))
  obtain ⟨b, q7, q8, q9, q10, S1, q11⟩ := q
  cases q7
  refine zJ_istore dL_law__1905 (Nat.le_of_ble_eq_true rfl) (by decide) ?_
  refine zJ_aload_n dL_law__1907 rfl ?_
  refine zJ_wid (kc := kc + 0) (ks := ks + 0) (by omega) (by omega) (zJ_callV [] [] lv_L_109 (m_thrown (d := 50) (I := h2.1) (g := h2.2) hl (by omega) q11.1) (zSt_ob q11.1 74 13 rfl).1 (zSt_ob q11.1 74 13 rfl).2 rfl (by omega) (Nat.le_of_ble_eq_true rfl) rfl dL_law__1908 (fun E h1 q _ => by cases q.1) (fun r h3 q _ => ?_))
  obtain ⟨y1, y2⟩ := q
  cases y1
  subst y2
  refine zJ_iload dL_law__1911 rfl ?_
  refine zJ_icmp_eq 1918 dL_law__1913 (by decide) (fun _ => ?_) (fun z => absurd q10 z)
  refine zJ_iload dL_law__1918 rfl ?_
  refine zJ_if_ne 1935 dL_law__1920 (by decide) (fun _ => (zJ_goto 2132 dL_law__1935 (by decide) (zJ_back (zle_r (zle_r (zle_r (zle_r (zle_r (zle_n (zle_n zle_0))))))) rfl (kk h2 S1 q11)))) (fun z0 => ?_)
  refine zJ_aload_n dL_law__1923 rfl ?_
  refine zJ_iconst (v := nI 0) dL_law__1924 rfl ?_
  refine zJ_lald (a := 642) q11.2.1.1 q11.2.1.2 (vp_in_nI (n := 0) (by omega) (by omega)) dL_law__1925 ?_
  refine zJ_iload dL_law__1926 rfl ?_
  refine zJ_i2l dL_law__1928 ?_
  refine zJ_lcmp dL_law__1929 ?_
  have eL : h2.2.2.2.2 642 (nI 0).toNatClampNeg = v.toInt64 := by
    rw [q9]
    exact q6 z0
  refine zJ_if_eq 1935 dL_law__1930 (by decide) (fun _ => (zJ_goto 2132 dL_law__1935 (by decide) (zJ_back (zle_r (zle_r (zle_r (zle_r (zle_r (zle_n (zle_n zle_0))))))) rfl (kk h2 S1 q11)))) (fun z => absurd (by rw [eL, q8 z0]; exact lg_same _) z)
theorem cs_span (hl : l.stackTraces = false) {n : Nat} {S : sT} (hh : lvI n (I, g) S) (hn : n ≤ 520) (hi : 9 * n + 9 ≤ Xi.1) (hx : Xi.1 ≤ 4608) (kk : lvK l Xi kc ks n post) : zJ l Xi mL_law_ 60 (kc + 7) (ks + 600) 1938 (lL n none none) [] (I, g) post := by
  refine zJ_aload_n dL_law__1938 rfl ?_
  refine zJ_aload_n dL_law__1939 rfl ?_
  refine zJ_iload dL_law__1940 rfl ?_
  refine zJ_iconst (v := nI 1) dL_law__1942 rfl ?_
  refine zJ_iadd dL_law__1943 ?_
  refine sx_ag (n := n) (j := 1) hi hx (by omega) dL_law__1944 ?_
  refine zJ_aload_n dL_law__1945 rfl ?_
  refine zJ_iload dL_law__1946 rfl ?_
  refine zJ_iconst (v := nI 2) dL_law__1948 rfl ?_
  refine zJ_iadd dL_law__1949 ?_
  refine sx_ag (n := n) (j := 2) hi hx (by omega) dL_law__1950 ?_
  refine zJ_aload_n dL_law__1951 rfl ?_
  refine zJ_iload dL_law__1952 rfl ?_
  refine zJ_iconst (v := nI 3) dL_law__1954 rfl ?_
  refine zJ_iadd dL_law__1955 ?_
  refine sx_ag (n := n) (j := 3) hi hx (by omega) dL_law__1956 ?_
  refine zJ_aload_n dL_law__1957 rfl ?_
  refine zJ_iload dL_law__1958 rfl ?_
  refine zJ_iconst (v := nI 4) dL_law__1960 rfl ?_
  refine zJ_iadd dL_law__1961 ?_
  refine sx_ag (n := n) (j := 4) hi hx (by omega) dL_law__1962 ?_
  refine zJ_aload_n dL_law__1963 rfl ?_
  refine zJ_iload dL_law__1964 rfl ?_
  refine zJ_iconst (v := nI 5) dL_law__1966 rfl ?_
  refine zJ_iadd dL_law__1967 ?_
  refine sx_ag (n := n) (j := 5) hi hx (by omega) dL_law__1968 ?_
  refine zJ_aload_n dL_law__1969 rfl ?_
  refine zJ_iload dL_law__1970 rfl ?_
  refine zJ_bipush (v := nI 6) dL_law__1972 rfl ?_
  refine zJ_iadd dL_law__1974 ?_
  refine sx_ag (n := n) (j := 6) hi hx (by omega) dL_law__1975 ?_
  refine zJ_aload_n dL_law__1976 rfl ?_
  obtain ⟨kc', ks', q1, q2, hC⟩ := p_span (Xi := Xi) hl hh hn (a1 := ag Xi n 1) (a2 := ag Xi n 2) (a3 := ag Xi n 3) (a4 := ag Xi n 4) (a5 := ag Xi n 5) (a6 := ag Xi n 6)
  refine zJ_wid (kc := kc + kc') (ks := ks + ks') (by omega) (by omega) (zJ_callSH [.ref 0, .int (ag Xi n 1), .int (ag Xi n 2), .int (ag Xi n 3), .int (ag Xi n 4), .int (ag Xi n 5), .int (ag Xi n 6), .ref 642] [] lsh_L_198 hC rfl (by omega) (Nat.le_of_ble_eq_true rfl) rfl dL_law__1977 (fun E h1 q _ => by obtain ⟨_, _, z, _⟩ := q; cases z) (fun r h1 q _ => ?_))
  obtain ⟨code, v, q3, ⟨q4, q5, q6⟩, hR⟩ := q
  cases q3
  refine zJ_istore dL_law__1980 (Nat.le_of_ble_eq_true rfl) (by decide) ?_
  refine zJ_aload_n dL_law__1982 rfl ?_
  refine zJ_aload_n dL_law__1983 rfl ?_
  refine zJ_iload dL_law__1984 rfl ?_
  refine zJ_iconst (v := nI 1) dL_law__1986 rfl ?_
  refine zJ_iadd dL_law__1987 ?_
  refine sx_ag (n := n) (j := 1) hi hx (by omega) dL_law__1988 ?_
  refine zJ_aload_n dL_law__1989 rfl ?_
  refine zJ_iload dL_law__1990 rfl ?_
  refine zJ_iconst (v := nI 2) dL_law__1992 rfl ?_
  refine zJ_iadd dL_law__1993 ?_
  refine sx_ag (n := n) (j := 2) hi hx (by omega) dL_law__1994 ?_
  refine zJ_aload_n dL_law__1995 rfl ?_
  refine zJ_iload dL_law__1996 rfl ?_
  refine zJ_iconst (v := nI 3) dL_law__1998 rfl ?_
  refine zJ_iadd dL_law__1999 ?_
  refine sx_ag (n := n) (j := 3) hi hx (by omega) dL_law__2000 ?_
  refine zJ_aload_n dL_law__2001 rfl ?_
  refine zJ_iload dL_law__2002 rfl ?_
  refine zJ_iconst (v := nI 4) dL_law__2004 rfl ?_
  refine zJ_iadd dL_law__2005 ?_
  refine sx_ag (n := n) (j := 4) hi hx (by omega) dL_law__2006 ?_
  refine zJ_aload_n dL_law__2007 rfl ?_
  refine zJ_iload dL_law__2008 rfl ?_
  refine zJ_iconst (v := nI 5) dL_law__2010 rfl ?_
  refine zJ_iadd dL_law__2011 ?_
  refine sx_ag (n := n) (j := 5) hi hx (by omega) dL_law__2012 ?_
  refine zJ_aload_n dL_law__2013 rfl ?_
  refine zJ_iload dL_law__2014 rfl ?_
  refine zJ_bipush (v := nI 6) dL_law__2016 rfl ?_
  refine zJ_iadd dL_law__2018 ?_
  refine sx_ag (n := n) (j := 6) hi hx (by omega) dL_law__2019 ?_
  refine zJ_wid (kc := kc + 0) (ks := ks + 0) (by omega) (by omega) (zJ_callV [.int (ag Xi n 1), .int (ag Xi n 2), .int (ag Xi n 3), .int (ag Xi n 4), .int (ag Xi n 5), .int (ag Xi n 6)] [] lv_L_201 hR (zSt_ob q5 74 13 rfl).1 (zSt_ob q5 74 13 rfl).2 rfl (by omega) (Nat.le_of_ble_eq_true rfl) rfl dL_law__2020 (fun E h1 q _ => by obtain ⟨_, z, _⟩ := q; cases z) (fun r h2 q _ => ?_))
  obtain ⟨b, q7, q8, q9, q10, S1, q11⟩ := q
  cases q7
  refine zJ_istore dL_law__2023 (Nat.le_of_ble_eq_true rfl) (by decide) ?_
  refine zJ_aload_n dL_law__2025 rfl ?_
  refine zJ_wid (kc := kc + 0) (ks := ks + 0) (by omega) (by omega) (zJ_callV [] [] lv_L_109 (m_thrown (d := 50) (I := h2.1) (g := h2.2) hl (by omega) q11.1) (zSt_ob q11.1 74 13 rfl).1 (zSt_ob q11.1 74 13 rfl).2 rfl (by omega) (Nat.le_of_ble_eq_true rfl) rfl dL_law__2026 (fun E h1 q _ => by cases q.1) (fun r h3 q _ => ?_))
  obtain ⟨y1, y2⟩ := q
  cases y1
  subst y2
  refine zJ_iload dL_law__2029 rfl ?_
  refine zJ_icmp_eq 2036 dL_law__2031 (by decide) (fun _ => ?_) (fun z => absurd q10 z)
  refine zJ_iload dL_law__2036 rfl ?_
  refine zJ_if_ne 2053 dL_law__2038 (by decide) (fun _ => (zJ_goto 2132 dL_law__2053 (by decide) (zJ_back (zle_r (zle_r (zle_r (zle_r (zle_r (zle_n (zle_n zle_0))))))) rfl (kk h2 S1 q11)))) (fun z0 => ?_)
  refine zJ_aload_n dL_law__2041 rfl ?_
  refine zJ_iconst (v := nI 0) dL_law__2042 rfl ?_
  refine zJ_lald (a := 642) q11.2.1.1 q11.2.1.2 (vp_in_nI (n := 0) (by omega) (by omega)) dL_law__2043 ?_
  refine zJ_iload dL_law__2044 rfl ?_
  refine zJ_i2l dL_law__2046 ?_
  refine zJ_lcmp dL_law__2047 ?_
  have eL : h2.2.2.2.2 642 (nI 0).toNatClampNeg = v.toInt64 := by
    rw [q9]
    exact q6 z0
  refine zJ_if_eq 2053 dL_law__2048 (by decide) (fun _ => (zJ_goto 2132 dL_law__2053 (by decide) (zJ_back (zle_r (zle_r (zle_r (zle_r (zle_r (zle_n (zle_n zle_0))))))) rfl (kk h2 S1 q11)))) (fun z => absurd (by rw [eL, q8 z0]; exact lg_same _) z)
theorem cs_image (hl : l.stackTraces = false) {n : Nat} {S : sT} (hh : lvI n (I, g) S) (hn : n ≤ 520) (hi : 9 * n + 9 ≤ Xi.1) (hx : Xi.1 ≤ 4608) (kk : lvK l Xi kc ks n post) : zJ l Xi mL_law_ 60 (kc + 7) (ks + 600) 2056 (lL n none none) [] (I, g) post := by
  refine zJ_aload_n dL_law__2056 rfl ?_
  obtain ⟨kc', ks', q1, q2, hC⟩ := p_image (Xi := Xi) hl hh hn
  refine zJ_wid (kc := kc + kc') (ks := ks + ks') (by omega) (by omega) (zJ_callV [] [] lv_L_202 hC (zSt_ob hh.1 0 12 rfl).1 (zSt_ob hh.1 0 12 rfl).2 rfl (by omega) (Nat.le_of_ble_eq_true rfl) rfl dL_law__2057 (fun E h1 q _ => by obtain ⟨_, z, _⟩ := q; cases z) (fun r h1 q _ => ?_))
  obtain ⟨v, q3, q5, hR⟩ := q
  cases q3
  refine zJ_aload_n dL_law__2060 rfl ?_
  refine zJ_wid (kc := kc + 0) (ks := ks + 0) (by omega) (by omega) (zJ_callV [] [.int v] lv_L_205 hR (zSt_ob q5 74 13 rfl).1 (zSt_ob q5 74 13 rfl).2 rfl (by omega) (Nat.le_of_ble_eq_true rfl) rfl dL_law__2061 (fun E h1 q _ => by obtain ⟨z, _⟩ := q; cases z) (fun r h2 q _ => ?_))
  obtain ⟨q7, S1, q11⟩ := q
  cases q7
  exact zJ_icmp_eq 2132 dL_law__2064 (by decide) (fun _ => zJ_back (zle_r (zle_r (zle_r (zle_r (zle_r (zle_n (zle_n zle_0))))))) rfl (kk h2 S1 q11)) (fun z => absurd rfl z)
theorem cs_restore (hl : l.stackTraces = false) {n : Nat} {S : sT} (hh : lvI n (I, g) S) (hn : n ≤ 520) (hi : 9 * n + 9 ≤ Xi.1) (hx : Xi.1 ≤ 4608) (kk : lvK l Xi kc ks n post) : zJ l Xi mL_law_ 60 (kc + 7) (ks + 600) 2069 (lL n none none) [] (I, g) post := by
  refine zJ_aload_n dL_law__2069 rfl ?_
  obtain ⟨kc', ks', q1, q2, hC⟩ := p_restore (Xi := Xi) hl hh hn
  refine zJ_wid (kc := kc + kc') (ks := ks + ks') (by omega) (by omega) (zJ_callV [] [] lv_L_206 hC (zSt_ob hh.1 0 12 rfl).1 (zSt_ob hh.1 0 12 rfl).2 rfl (by omega) (Nat.le_of_ble_eq_true rfl) rfl dL_law__2070 (fun E h1 q _ => by obtain ⟨_, z, _⟩ := q; cases z) (fun r h1 q _ => ?_))
  obtain ⟨v, q3, q5, hR⟩ := q
  cases q3
  refine zJ_aload_n dL_law__2073 rfl ?_
  refine zJ_wid (kc := kc + 0) (ks := ks + 0) (by omega) (by omega) (zJ_callV [] [.int v] lv_L_209 hR (zSt_ob q5 74 13 rfl).1 (zSt_ob q5 74 13 rfl).2 rfl (by omega) (Nat.le_of_ble_eq_true rfl) rfl dL_law__2074 (fun E h1 q _ => by obtain ⟨z, _⟩ := q; cases z) (fun r h2 q _ => ?_))
  obtain ⟨q7, S1, q11⟩ := q
  cases q7
  exact zJ_icmp_eq 2132 dL_law__2077 (by decide) (fun _ => zJ_back (zle_r (zle_r (zle_r (zle_r (zle_r (zle_n (zle_n zle_0))))))) rfl (kk h2 S1 q11)) (fun z => absurd rfl z)
theorem cs_status (hl : l.stackTraces = false) {n : Nat} {S : sT} (hh : lvI n (I, g) S) (hn : n ≤ 520) (hi : 9 * n + 9 ≤ Xi.1) (hx : Xi.1 ≤ 4608) (kk : lvK l Xi kc ks n post) : zJ l Xi mL_law_ 60 (kc + 7) (ks + 600) 2082 (lL n none none) [] (I, g) post := by
  refine zJ_aload_n dL_law__2082 rfl ?_
  refine zJ_aload_n dL_law__2083 rfl ?_
  refine zJ_iload dL_law__2084 rfl ?_
  refine zJ_iconst (v := nI 1) dL_law__2086 rfl ?_
  refine zJ_iadd dL_law__2087 ?_
  refine sx_ag (n := n) (j := 1) hi hx (by omega) dL_law__2088 ?_
  obtain ⟨kc', ks', q1, q2, hC⟩ := p_status (Xi := Xi) hl hh hn (a1 := ag Xi n 1)
  refine zJ_wid (kc := kc + kc') (ks := ks + ks') (by omega) (by omega) (zJ_callV [.int (ag Xi n 1)] [] lv_L_210 hC (zSt_ob hh.1 0 12 rfl).1 (zSt_ob hh.1 0 12 rfl).2 rfl (by omega) (Nat.le_of_ble_eq_true rfl) rfl dL_law__2089 (fun E h1 q _ => by obtain ⟨_, z, _⟩ := q; cases z) (fun r h1 q _ => ?_))
  obtain ⟨v, q3, q5, hR⟩ := q
  cases q3
  refine zJ_aload_n dL_law__2092 rfl ?_
  refine zJ_aload_n dL_law__2093 rfl ?_
  refine zJ_iload dL_law__2094 rfl ?_
  refine zJ_iconst (v := nI 1) dL_law__2096 rfl ?_
  refine zJ_iadd dL_law__2097 ?_
  refine sx_ag (n := n) (j := 1) hi hx (by omega) dL_law__2098 ?_
  refine zJ_wid (kc := kc + 0) (ks := ks + 0) (by omega) (by omega) (zJ_callV [.int (ag Xi n 1)] [.int v] lv_L_213 hR (zSt_ob q5 74 13 rfl).1 (zSt_ob q5 74 13 rfl).2 rfl (by omega) (Nat.le_of_ble_eq_true rfl) rfl dL_law__2099 (fun E h1 q _ => by obtain ⟨z, _⟩ := q; cases z) (fun r h2 q _ => ?_))
  obtain ⟨q7, S1, q11⟩ := q
  cases q7
  exact zJ_icmp_eq 2132 dL_law__2102 (by decide) (fun _ => zJ_back (zle_r (zle_r (zle_r (zle_r (zle_r (zle_n (zle_n zle_0))))))) rfl (kk h2 S1 q11)) (fun z => absurd rfl z)
theorem cs_count (hl : l.stackTraces = false) {n : Nat} {S : sT} (hh : lvI n (I, g) S) (hn : n ≤ 520) (hi : 9 * n + 9 ≤ Xi.1) (hx : Xi.1 ≤ 4608) (kk : lvK l Xi kc ks n post) : zJ l Xi mL_law_ 60 (kc + 7) (ks + 600) 2107 (lL n none none) [] (I, g) post := by
  refine zJ_aload_n dL_law__2107 rfl ?_
  refine zJ_aload_n dL_law__2108 rfl ?_
  refine zJ_iload dL_law__2109 rfl ?_
  refine zJ_iconst (v := nI 1) dL_law__2111 rfl ?_
  refine zJ_iadd dL_law__2112 ?_
  refine sx_ag (n := n) (j := 1) hi hx (by omega) dL_law__2113 ?_
  obtain ⟨kc', ks', q1, q2, hC⟩ := p_count (Xi := Xi) hl hh hn (a1 := ag Xi n 1)
  refine zJ_wid (kc := kc + kc') (ks := ks + ks') (by omega) (by omega) (zJ_callV [.int (ag Xi n 1)] [] lv_L_214 hC (zSt_ob hh.1 0 12 rfl).1 (zSt_ob hh.1 0 12 rfl).2 rfl (by omega) (Nat.le_of_ble_eq_true rfl) rfl dL_law__2114 (fun E h1 q _ => by obtain ⟨_, z, _⟩ := q; cases z) (fun r h1 q _ => ?_))
  obtain ⟨v, q3, q5, hR⟩ := q
  cases q3
  refine zJ_aload_n dL_law__2117 rfl ?_
  refine zJ_aload_n dL_law__2118 rfl ?_
  refine zJ_iload dL_law__2119 rfl ?_
  refine zJ_iconst (v := nI 1) dL_law__2121 rfl ?_
  refine zJ_iadd dL_law__2122 ?_
  refine sx_ag (n := n) (j := 1) hi hx (by omega) dL_law__2123 ?_
  refine zJ_wid (kc := kc + 0) (ks := ks + 0) (by omega) (by omega) (zJ_callV [.int (ag Xi n 1)] [.int v] lv_L_217 hR (zSt_ob q5 74 13 rfl).1 (zSt_ob q5 74 13 rfl).2 rfl (by omega) (Nat.le_of_ble_eq_true rfl) rfl dL_law__2124 (fun E h1 q _ => by obtain ⟨z, _⟩ := q; cases z) (fun r h2 q _ => ?_))
  obtain ⟨q7, S1, q11⟩ := q
  cases q7
  exact zJ_icmp_eq 2132 dL_law__2127 (by decide) (fun _ => zJ_back (zle_r (zle_r (zle_r (zle_r (zle_r (zle_n (zle_n zle_0))))))) rfl (kk h2 S1 q11)) (fun z => absurd rfl z)
theorem and63 (a : Int32) : ∃ m, m < 64 ∧ a &&& nI 63 = nI m := by
  refine ⟨(a &&& nI 63).toBitVec.toNat, ?_, ?_⟩
  · show (a.toBitVec &&& (nI 63).toBitVec).toNat < 64
    rw [BitVec.toNat_and]
    exact Nat.lt_of_le_of_lt Nat.and_le_right (by decide)
  · apply Int32.toBitVec_inj.mp
    show _ = BitVec.ofNat 32 _
    rw [BitVec.ofNat_toNat, BitVec.setWidth_eq]
theorem lw_sw {n : Nat} {S : sT} (hl : l.stackTraces = false) (hh : lvI n (I, g) S) (hn : n ≤ 520) (hi : 9 * n + 9 ≤ Xi.1) (hx : Xi.1 ≤ 4608) (kk : lvK l Xi kc ks n post) {m : Nat} (hm : m < 64) : zJ l Xi mL_law_ 60 (kc + 7) (ks + 600) 40 (lL n none none) [.int (nI m)] (I, g) post := by
  match m, hm with
  | 0, _ => exact zJ_tabIn (off := 148) 188 dL_law__40 (by decide) (by decide) (by decide +kernel) (by decide) (cs_feed hl hh hn hi hx kk)
  | 1, _ => exact zJ_tabIn (off := 221) 261 dL_law__40 (by decide) (by decide) (by decide +kernel) (by decide) (cs_board hl hh hn hi hx kk)
  | 2, _ => exact zJ_tabIn (off := 277) 317 dL_law__40 (by decide) (by decide) (by decide +kernel) (by decide) (cs_law hl hh hn hi hx kk)
  | 3, _ => exact zJ_tabIn (off := 333) 373 dL_law__40 (by decide) (by decide) (by decide +kernel) (by decide) (cs_work hl hh hn hi hx kk)
  | 4, _ => exact zJ_tabIn (off := 389) 429 dL_law__40 (by decide) (by decide) (by decide +kernel) (by decide) (cs_book hl hh hn hi hx kk)
  | 5, _ => exact zJ_tabIn (off := 445) 485 dL_law__40 (by decide) (by decide) (by decide +kernel) (by decide) (cs_fault hl hh hn hi hx kk)
  | 6, _ => exact zJ_tabIn (off := 458) 498 dL_law__40 (by decide) (by decide) (by decide +kernel) (by decide) (cs_undo hl hh hn hi hx kk)
  | 7, _ => exact zJ_tabIn (off := 471) 511 dL_law__40 (by decide) (by decide) (by decide +kernel) (by decide) (cs_told hl hh hn hi hx kk)
  | 8, _ => exact zJ_tabIn (off := 527) 567 dL_law__40 (by decide) (by decide) (by decide +kernel) (by decide) (cs_net hl hh hn hi hx kk)
  | 9, _ => exact zJ_tabIn (off := 595) 635 dL_law__40 (by decide) (by decide) (by decide +kernel) (by decide) (cs_place hl hh hn hi hx kk)
  | 10, _ => exact zJ_tabIn (off := 675) 715 dL_law__40 (by decide) (by decide) (by decide +kernel) (by decide) (cs_cost hl hh hn hi hx kk)
  | 11, _ => exact zJ_tabIn (off := 755) 795 dL_law__40 (by decide) (by decide) (by decide +kernel) (by decide) (cs_would hl hh hn hi hx kk)
  | 12, _ => exact zJ_tabIn (off := 901) 941 dL_law__40 (by decide) (by decide) (by decide +kernel) (by decide) (cs_parent hl hh hn hi hx kk)
  | 13, _ => exact zJ_tabIn (off := 981) 1021 dL_law__40 (by decide) (by decide) (by decide +kernel) (by decide) (cs_dist hl hh hn hi hx kk)
  | 14, _ => exact zJ_tabIn (off := 1061) 1101 dL_law__40 (by decide) (by decide) (by decide +kernel) (by decide) (cs_spared hl hh hn hi hx kk)
  | 15, _ => exact zJ_tabIn (off := 1141) 1181 dL_law__40 (by decide) (by decide) (by decide +kernel) (by decide) (cs_settled hl hh hn hi hx kk)
  | 16, _ => exact zJ_tabIn (off := 1154) 1194 dL_law__40 (by decide) (by decide) (by decide +kernel) (by decide) (cs_jam hl hh hn hi hx kk)
  | 17, _ => exact zJ_tabIn (off := 1210) 1250 dL_law__40 (by decide) (by decide) (by decide +kernel) (by decide) (cs_ahead hl hh hn hi hx kk)
  | 18, _ => exact zJ_tabIn (off := 1278) 1318 dL_law__40 (by decide) (by decide) (by decide +kernel) (by decide) (cs_fewest hl hh hn hi hx kk)
  | 19, _ => exact zJ_tabIn (off := 1334) 1374 dL_law__40 (by decide) (by decide) (by decide +kernel) (by decide) (cs_tree hl hh hn hi hx kk)
  | 20, _ => exact zJ_tabIn (off := 1402) 1442 dL_law__40 (by decide) (by decide) (by decide +kernel) (by decide) (cs_meet hl hh hn hi hx kk)
  | 21, _ => exact zJ_tabIn (off := 1470) 1510 dL_law__40 (by decide) (by decide) (by decide +kernel) (by decide) (cs_dear hl hh hn hi hx kk)
  | 22, _ => exact zJ_tabIn (off := 1526) 1566 dL_law__40 (by decide) (by decide) (by decide +kernel) (by decide) (cs_shed hl hh hn hi hx kk)
  | 23, _ => exact zJ_tabIn (off := 1582) 1622 dL_law__40 (by decide) (by decide) (by decide +kernel) (by decide) (cs_fits hl hh hn hi hx kk)
  | 24, _ => exact zJ_tabIn (off := 1638) 1678 dL_law__40 (by decide) (by decide) (by decide +kernel) (by decide) (cs_look hl hh hn hi hx kk)
  | 25, _ => exact zJ_tabIn (off := 1694) 1734 dL_law__40 (by decide) (by decide) (by decide +kernel) (by decide) (cs_crowd hl hh hn hi hx kk)
  | 26, _ => exact zJ_tabIn (off := 1750) 1790 dL_law__40 (by decide) (by decide) (by decide +kernel) (by decide) (cs_tight hl hh hn hi hx kk)
  | 27, _ => exact zJ_tabIn (off := 1806) 1846 dL_law__40 (by decide) (by decide) (by decide +kernel) (by decide) (cs_season hl hh hn hi hx kk)
  | 28, _ => exact zJ_tabIn (off := 1898) 1938 dL_law__40 (by decide) (by decide) (by decide +kernel) (by decide) (cs_span hl hh hn hi hx kk)
  | 29, _ => exact zJ_tabIn (off := 2016) 2056 dL_law__40 (by decide) (by decide) (by decide +kernel) (by decide) (cs_image hl hh hn hi hx kk)
  | 30, _ => exact zJ_tabIn (off := 2029) 2069 dL_law__40 (by decide) (by decide) (by decide +kernel) (by decide) (cs_restore hl hh hn hi hx kk)
  | 31, _ => exact zJ_tabIn (off := 2042) 2082 dL_law__40 (by decide) (by decide) (by decide +kernel) (by decide) (cs_status hl hh hn hi hx kk)
  | 32, _ => exact zJ_tabIn (off := 2067) 2107 dL_law__40 (by decide) (by decide) (by decide +kernel) (by decide) (cs_count hl hh hn hi hx kk)
  | m + 33, hm => exact zJ_tabOut 2132 dL_law__40 (Or.inr (by rw [nI_toInt (by omega)]; omega)) (by decide) (zJ_wid (by omega) (by omega) (kk (I, g) S ⟨hh.1, hh.2.1, hh.2.2.1, hh.2.2.2.1, hh.2.2.2.2.1, hh.2.2.2.2.2.1, Nat.le_trans hh.2.2.2.2.2.2 (by omega)⟩))
theorem lw_cmp {L n : Nat} (hL : L ≤ 4608) (hn : n ≤ 5000) (h : ¬ nI L - nI 9 < nI (9 * n)) : 9 * n + 9 ≤ L := by
  have h2 : ¬ (nI L - nI 9).toInt < (nI (9 * n)).toInt := fun z => h (Int32.lt_iff_toInt_lt.mpr z)
  rw [pk_sub_toInt (by omega) (by omega), nI_toInt (by omega)] at h2
  omega
/-- from the loop's head: k calls are left at most -/
theorem lw_loop (hl : l.stackTraces = false) (hx : Xi.1 ≤ 4608) : ∀ (k n : Nat) (h : zH) (S : sT), n + k = 512 → lvI n h S → zJ l Xi mL_law_ 60 (7 * k) (600 * k) 23 (lL n none none) [] h (fun r _ => r = .inl (some (.int 1)))
  | k, n, h, S, hk, hh => by
    refine zJ_iload dL_law__23 rfl ?_
    refine zJ_aload_n dL_law__25 rfl ?_
    refine zJ_slen dL_law__26 ?_
    refine zJ_bipush (v := nI 9) dL_law__27 rfl ?_
    refine zJ_isub dL_law__29 ?_
    refine zJ_icmp_gt 2138 dL_law__30 (by decide) (fun _ => ?_) (fun z => ?_)
    · refine zJ_iconst (v := nI 1) dL_law__2138 rfl ?_
      exact zJ_zret rfl (Or.inr rfl) dL_law__2139 rfl
    · have hi := lw_cmp hx (by omega) z
      match k, hk with
      | 0, hk => omega
      | k + 1, hk =>
        refine zJ_aload_n dL_law__33 rfl ?_
        refine zJ_iload dL_law__34 rfl ?_
        refine zJ_sld (vp_in_nI (by omega) (by omega)) dL_law__36 ?_
        refine zJ_bipush (v := nI 63) dL_law__37 rfl ?_
        refine zJ_iand dL_law__39 ?_
        obtain ⟨m, hm, em⟩ := and63 (Xi.2 (nI (9 * n)).toNatClampNeg)
        rw [em]
        refine lw_sw (kc := 7 * k) (ks := 600 * k) (I := h.1) (g := h.2) hl hh (by omega) hi hx (fun h2 S1 hh2 => ?_) hm
        refine zJ_iinc (v := nI (9 * (n + 1))) dL_law__2132 rfl (by decide) (nI_add (9 * n) 9) ?_
        refine zJ_goto 23 dL_law__2135 (by decide) ?_
        exact lw_loop hl hx k (n + 1) h2 S1 (by omega) hh2
end ZLaw
