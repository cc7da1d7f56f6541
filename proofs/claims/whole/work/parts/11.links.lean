/-! ===== printed by wip/whole/links.py: records of the methods, what is checked of classes, fields, calls ===== -/
theorem zin {w : Cond} (h : w ∈ lw_tbl ∧ goodWord w = true) : w ∈ zGT := List.mem_filter.mpr h
theorem zt1 {w : Cond} (i : Nat) (h : tables_1_1[i]? = some w) (hg : goodWord w = true) : w ∈ zGT := zin ⟨List.mem_append_right _ (List.mem_append_left _ (List.mem_of_getElem? h)), hg⟩
theorem zt2 {w : Cond} (i : Nat) (h : tables_1_2[i]? = some w) (hg : goodWord w = true) : w ∈ zGT := zin ⟨List.mem_append_right _ (List.mem_append_right _ (List.mem_append_left _ (List.mem_of_getElem? h))), hg⟩
theorem zt3 {w : Cond} (i : Nat) (h : tables_1_3[i]? = some w) (hg : goodWord w = true) : w ∈ zGT := zin ⟨List.mem_append_right _ (List.mem_append_right _ (List.mem_append_right _ (List.mem_append_left _ (List.mem_of_getElem? h)))), hg⟩
theorem zt4 {w : Cond} (i : Nat) (h : tables_1_4[i]? = some w) (hg : goodWord w = true) : w ∈ zGT := zin ⟨List.mem_append_right _ (List.mem_append_right _ (List.mem_append_right _ (List.mem_append_right _ (List.mem_append_left _ (List.mem_of_getElem? h))))), hg⟩
theorem zt5 {w : Cond} (i : Nat) (h : tables_1_5[i]? = some w) (hg : goodWord w = true) : w ∈ zGT := zin ⟨List.mem_append_right _ (List.mem_append_right _ (List.mem_append_right _ (List.mem_append_right _ (List.mem_append_right _ (List.mem_append_left _ (List.mem_of_getElem? h)))))), hg⟩
theorem zt6 {w : Cond} (i : Nat) (h : tables_1_6[i]? = some w) (hg : goodWord w = true) : w ∈ zGT := zin ⟨List.mem_append_right _ (List.mem_append_right _ (List.mem_append_right _ (List.mem_append_right _ (List.mem_append_right _ (List.mem_append_right _ (List.mem_append_left _ (List.mem_of_getElem? h))))))), hg⟩
theorem zt7 {w : Cond} (i : Nat) (h : tables_1_7[i]? = some w) (hg : goodWord w = true) : w ∈ zGT := zin ⟨List.mem_append_right _ (List.mem_append_right _ (List.mem_append_right _ (List.mem_append_right _ (List.mem_append_right _ (List.mem_append_right _ (List.mem_append_right _ (List.mem_append_left _ (List.mem_of_getElem? h)))))))), hg⟩
theorem zt8 {w : Cond} (i : Nat) (h : tables_1_8[i]? = some w) (hg : goodWord w = true) : w ∈ zGT := zin ⟨List.mem_append_right _ (List.mem_append_right _ (List.mem_append_right _ (List.mem_append_right _ (List.mem_append_right _ (List.mem_append_right _ (List.mem_append_right _ (List.mem_append_right _ (List.mem_append_left _ (List.mem_of_getElem? h))))))))), hg⟩
theorem zt9 {w : Cond} (i : Nat) (h : tables_1_9[i]? = some w) (hg : goodWord w = true) : w ∈ zGT := zin ⟨List.mem_append_right _ (List.mem_append_right _ (List.mem_append_right _ (List.mem_append_right _ (List.mem_append_right _ (List.mem_append_right _ (List.mem_append_right _ (List.mem_append_right _ (List.mem_append_right _ (List.mem_of_getElem? h))))))))), hg⟩
theorem zs1 {w : Cond} (i : Nat) (h : (k2_sels lw_privs_1)[i]? = some w) (hg : goodWord w = true) : w ∈ zGT := zin ⟨List.mem_append_left _ (by have h := List.mem_of_getElem? h; obtain ⟨q, h1, h2⟩ := List.mem_map.mp h; exact List.mem_map.mpr ⟨q, List.mem_append_left _ (h1), h2⟩), hg⟩
theorem zs2 {w : Cond} (i : Nat) (h : (k2_sels lw_privs_2)[i]? = some w) (hg : goodWord w = true) : w ∈ zGT := zin ⟨List.mem_append_left _ (by have h := List.mem_of_getElem? h; obtain ⟨q, h1, h2⟩ := List.mem_map.mp h; exact List.mem_map.mpr ⟨q, List.mem_append_right _ (List.mem_append_left _ (h1)), h2⟩), hg⟩
theorem zs3 {w : Cond} (i : Nat) (h : (k2_sels lw_privs_3)[i]? = some w) (hg : goodWord w = true) : w ∈ zGT := zin ⟨List.mem_append_left _ (by have h := List.mem_of_getElem? h; obtain ⟨q, h1, h2⟩ := List.mem_map.mp h; exact List.mem_map.mpr ⟨q, List.mem_append_right _ (List.mem_append_right _ (List.mem_append_left _ (h1))), h2⟩), hg⟩
theorem zs4 {w : Cond} (i : Nat) (h : (k2_sels lw_privs_4)[i]? = some w) (hg : goodWord w = true) : w ∈ zGT := zin ⟨List.mem_append_left _ (by have h := List.mem_of_getElem? h; obtain ⟨q, h1, h2⟩ := List.mem_map.mp h; exact List.mem_map.mpr ⟨q, List.mem_append_right _ (List.mem_append_right _ (List.mem_append_right _ (List.mem_append_left _ (h1)))), h2⟩), hg⟩
theorem zs5 {w : Cond} (i : Nat) (h : (k2_sels lw_privs_5)[i]? = some w) (hg : goodWord w = true) : w ∈ zGT := zin ⟨List.mem_append_left _ (by have h := List.mem_of_getElem? h; obtain ⟨q, h1, h2⟩ := List.mem_map.mp h; exact List.mem_map.mpr ⟨q, List.mem_append_right _ (List.mem_append_right _ (List.mem_append_right _ (List.mem_append_right _ (List.mem_append_left _ (h1))))), h2⟩), hg⟩
theorem zs6 {w : Cond} (i : Nat) (h : (k2_sels lw_privs_6)[i]? = some w) (hg : goodWord w = true) : w ∈ zGT := zin ⟨List.mem_append_left _ (by have h := List.mem_of_getElem? h; obtain ⟨q, h1, h2⟩ := List.mem_map.mp h; exact List.mem_map.mpr ⟨q, List.mem_append_right _ (List.mem_append_right _ (List.mem_append_right _ (List.mem_append_right _ (List.mem_append_right _ (List.mem_append_left _ (h1)))))), h2⟩), hg⟩
theorem zs7 {w : Cond} (i : Nat) (h : (k2_sels lw_privs_7)[i]? = some w) (hg : goodWord w = true) : w ∈ zGT := zin ⟨List.mem_append_left _ (by have h := List.mem_of_getElem? h; obtain ⟨q, h1, h2⟩ := List.mem_map.mp h; exact List.mem_map.mpr ⟨q, List.mem_append_right _ (List.mem_append_right _ (List.mem_append_right _ (List.mem_append_right _ (List.mem_append_right _ (List.mem_append_right _ (List.mem_append_left _ (h1))))))), h2⟩), hg⟩
theorem zs8 {w : Cond} (i : Nat) (h : (k2_sels lw_privs_8)[i]? = some w) (hg : goodWord w = true) : w ∈ zGT := zin ⟨List.mem_append_left _ (by have h := List.mem_of_getElem? h; obtain ⟨q, h1, h2⟩ := List.mem_map.mp h; exact List.mem_map.mpr ⟨q, List.mem_append_right _ (List.mem_append_right _ (List.mem_append_right _ (List.mem_append_right _ (List.mem_append_right _ (List.mem_append_right _ (List.mem_append_right _ (h1))))))), h2⟩), hg⟩
abbrev mJ0_charAt_5068e : zM := (RJ0, yJ0_charAt_5068e, cJ0_charAt_5068e, 2, (some .char), [])
abbrev mJ0_checkIndex_df160 : zM := (RJ0, yJ0_checkIndex_df160, cJ0_checkIndex_df160, 2, none, [])
abbrev mJ0_coder_7d493 : zM := (RJ0, yJ0_coder_7d493, cJ0_coder_7d493, 1, (some .byte), [])
abbrev mJ0_isLatin1_aae02 : zM := (RJ0, yJ0_isLatin1_aae02, cJ0_isLatin1_aae02, 1, (some .boolean), [])
abbrev mJ0_length_8abf5 : zM := (RJ0, yJ0_length_8abf5, cJ0_length_8abf5, 1, (some .int), [])
abbrev mJ1_charAt_3b067 : zM := (RJ1, yJ1_charAt_3b067, cJ1_charAt_3b067, 2, (some .char), [])
abbrev mJ2_charAt_3b067 : zM := (RJ2, yJ2_charAt_3b067, cJ2_charAt_3b067, 2, (some .char), [])
abbrev mJ2_checkIndex_2214a : zM := (RJ2, yJ2_checkIndex_2214a, cJ2_checkIndex_2214a, 2, none, [])
abbrev mJ2_getChar_3b067 : zM := (RJ2, yJ2_getChar_3b067, cJ2_getChar_3b067, 2, (some .char), [])
abbrev mJ2_length_9d52b : zM := (RJ2, yJ2_length_9d52b, cJ2_length_9d52b, 1, (some .int), [])
abbrev mJ3_checkIndex_8e157 : zM := (RJ3, yJ3_checkIndex_8e157, cJ3_checkIndex_8e157, 3, (some .int), [])
abbrev mJ6_bitCount_0f7a4 : zM := (RJ6, yJ6_bitCount_0f7a4, cJ6_bitCount_0f7a4, 1, (some .int), [])
abbrev mJ7_fill_53178 : zM := (RJ7, yJ7_fill_53178, cJ7_fill_53178, 4, none, [])
abbrev mJ9_abs_0f7a4 : zM := (RJ9, yJ9_abs_0f7a4, cJ9_abs_0f7a4, 1, (some .int), [])
abbrev mL_ahead : zM := (RL, yL_ahead, cL_ahead, 5, (some .int), [(0, 10, 13, 13)])
abbrev mL_board : zM := (RL, yL_board, cL_board, 4, (some .int), [(0, 9, 12, 13)])
abbrev mL_book : zM := (RL, yL_book, cL_book, 4, (some .int), [(0, 9, 12, 13)])
abbrev mL_cost : zM := (RL, yL_cost, cL_cost, 6, (some .int), [(0, 12, 15, 31)])
abbrev mL_crowd : zM := (RL, yL_crowd, cL_crowd, 4, (some .int), [(0, 9, 12, 13)])
abbrev mL_dear : zM := (RL, yL_dear, cL_dear, 4, (some .int), [(0, 9, 12, 31)])
abbrev mL_dist : zM := (RL, yL_dist, cL_dist, 6, (some .int), [(0, 12, 15, 31)])
abbrev mL_fewest : zM := (RL, yL_fewest, cL_fewest, 4, (some .int), [(0, 9, 12, 31)])
abbrev mL_fits : zM := (RL, yL_fits, cL_fits, 4, (some .int), [(0, 9, 12, 13)])
abbrev mL_jam : zM := (RL, yL_jam, cL_jam, 4, (some .int), [(0, 9, 12, 31)])
abbrev mL_law : zM := (RL, yL_law, cL_law, 4, (some .int), [(0, 9, 12, 13)])
abbrev mL_look : zM := (RL, yL_look, cL_look, 4, (some .int), [(0, 9, 12, 13)])
abbrev mL_meet : zM := (RL, yL_meet, cL_meet, 5, (some .int), [(0, 10, 13, 31)])
abbrev mL_net : zM := (RL, yL_net, cL_net, 5, (some .int), [(0, 10, 13, 31), (0, 10, 17, 13)])
abbrev mL_parent : zM := (RL, yL_parent, cL_parent, 6, (some .int), [(0, 12, 15, 31)])
abbrev mL_place : zM := (RL, yL_place, cL_place, 6, (some .int), [(0, 12, 15, 31), (0, 12, 19, 13)])
abbrev mL_season : zM := (RL, yL_season, cL_season, 7, (some .int), [(0, 14, 17, 13)])
abbrev mL_shed : zM := (RL, yL_shed, cL_shed, 4, (some .int), [(0, 9, 12, 31)])
abbrev mL_span : zM := (RL, yL_span, cL_span, 9, (some .int), [(0, 18, 21, 31), (0, 18, 25, 13)])
abbrev mL_spared : zM := (RL, yL_spared, cL_spared, 6, (some .int), [(0, 12, 15, 31)])
abbrev mL_tight : zM := (RL, yL_tight, cL_tight, 4, (some .int), [(0, 9, 12, 13)])
abbrev mL_told : zM := (RL, yL_told, cL_told, 4, (some .int), [(0, 9, 12, 13)])
abbrev mL_tree : zM := (RL, yL_tree, cL_tree, 5, (some .int), [(0, 10, 13, 31)])
abbrev mL_work : zM := (RL, yL_work, cL_work, 4, (some .int), [(0, 9, 12, 13)])
abbrev mL_would : zM := (RL, yL_would, cL_would, 11, (some .int), [(0, 22, 25, 13)])
abbrev mX0_clear : zM := (RX0, yX0_clear, cX0_clear, 1, none, [])
abbrev mX0_copyFrom : zM := (RX0, yX0_copyFrom, cX0_copyFrom, 2, none, [])
abbrev mX0_findBeside : zM := (RX0, yX0_findBeside, cX0_findBeside, 4, none, [])
abbrev mX0_finish : zM := (RX0, yX0_finish, cX0_finish, 2, none, [])
abbrev mX0_hasPin : zM := (RX0, yX0_hasPin, cX0_hasPin, 3, (some .boolean), [])
abbrev mX0_init : zM := (RX0, yX0_init, cX0_init, 1, none, [])
abbrev mX0_isInside : zM := (RX0, yX0_isInside, cX0_isInside, 2, (some .boolean), [])
abbrev mX0_keepPins : zM := (RX0, yX0_keepPins, cX0_keepPins, 6, none, [])
abbrev mX0_read : zM := (RX0, yX0_read, cX0_read, 3, none, [])
abbrev mX0_readClause : zM := (RX0, yX0_readClause, cX0_readClause, 8, none, [])
abbrev mX0_readPin : zM := (RX0, yX0_readPin, cX0_readPin, 4, none, [])
abbrev mX0_readPlace : zM := (RX0, yX0_readPlace, cX0_readPlace, 4, (some .int), [])
abbrev mX0_readWall : zM := (RX0, yX0_readWall, cX0_readWall, 3, none, [])
abbrev mX0_readWide : zM := (RX0, yX0_readWide, cX0_readWide, 4, none, [])
abbrev mX0_rootOf : zM := (RX0, yX0_rootOf, cX0_rootOf, 2, (some .int), [])
abbrev mX10_append : zM := (RX10, yX10_append, cX10_append, 3, none, [])
abbrev mX10_begin : zM := (RX10, yX10_begin, cX10_begin, 2, none, [])
abbrev mX10_digitIsNext : zM := (RX10, yX10_digitIsNext, cX10_digitIsNext, 1, (some .boolean), [])
abbrev mX10_ended : zM := (RX10, yX10_ended, cX10_ended, 1, (some .boolean), [])
abbrev mX10_fail : zM := (RX10, yX10_fail, cX10_fail, 3, none, [])
abbrev mX10_failed : zM := (RX10, yX10_failed, cX10_failed, 1, (some .boolean), [])
abbrev mX10_init : zM := (RX10, yX10_init, cX10_init, 1, none, [])
abbrev mX10_isDigit : zM := (RX10, yX10_isDigit, cX10_isDigit, 1, (some .boolean), [])
abbrev mX10_need : zM := (RX10, yX10_need, cX10_need, 2, none, [])
abbrev mX10_number : zM := (RX10, yX10_number, cX10_number, 4, (some .int), [])
abbrev mX10_readWord : zM := (RX10, yX10_readWord, cX10_readWord, 1, none, [])
abbrev mX10_skipBlanks : zM := (RX10, yX10_skipBlanks, cX10_skipBlanks, 1, none, [])
abbrev mX10_takes : zM := (RX10, yX10_takes, cX10_takes, 2, (some .boolean), [])
abbrev mX10_wordIs : zM := (RX10, yX10_wordIs, cX10_wordIs, 3, (some .boolean), [])
abbrev mX11_closeAgain : zM := (RX11, yX11_closeAgain, cX11_closeAgain, 1, none, [])
abbrev mX11_emit : zM := (RX11, yX11_emit, cX11_emit, 4, none, [])
abbrev mX11_init : zM := (RX11, yX11_init, cX11_init, 1, none, [])
abbrev mX11_openAgain : zM := (RX11, yX11_openAgain, cX11_openAgain, 2, none, [])
abbrev mX11_read : zM := (RX11, yX11_read, cX11_read, 4, none, [])
abbrev mX11_readStep : zM := (RX11, yX11_readStep, cX11_readStep, 4, none, [])
abbrev mX11_run : zM := (RX11, yX11_run, cX11_run, 10, (some .int), [])
abbrev mX12_ahead : zM := (RX12, yX12_ahead, cX12_ahead, 3, (some .int), [])
abbrev mX12_board : zM := (RX12, yX12_board, cX12_board, 2, (some .int), [])
abbrev mX12_book : zM := (RX12, yX12_book, cX12_book, 2, (some .int), [])
abbrev mX12_cost : zM := (RX12, yX12_cost, cX12_cost, 4, (some .int), [])
abbrev mX12_count : zM := (RX12, yX12_count, cX12_count, 2, (some .int), [])
abbrev mX12_crowd : zM := (RX12, yX12_crowd, cX12_crowd, 4, (some .int), [])
abbrev mX12_dear : zM := (RX12, yX12_dear, cX12_dear, 5, (some .int), [])
abbrev mX12_dist : zM := (RX12, yX12_dist, cX12_dist, 4, (some .int), [])
abbrev mX12_doDrawnDeed : zM := (RX12, yX12_doDrawnDeed, cX12_doDrawnDeed, 2, none, [])
abbrev mX12_drawn : zM := (RX12, yX12_drawn, cX12_drawn, 2, (some .int), [])
abbrev mX12_fault : zM := (RX12, yX12_fault, cX12_fault, 1, (some .int), [])
abbrev mX12_feed : zM := (RX12, yX12_feed, cX12_feed, 6, (some .int), [])
abbrev mX12_fewest : zM := (RX12, yX12_fewest, cX12_fewest, 2, (some .int), [])
abbrev mX12_fits : zM := (RX12, yX12_fits, cX12_fits, 3, (some .int), [])
abbrev mX12_goAhead : zM := (RX12, yX12_goAhead, cX12_goAhead, 3, none, [])
abbrev mX12_goSeason : zM := (RX12, yX12_goSeason, cX12_goSeason, 5, none, [])
abbrev mX12_image : zM := (RX12, yX12_image, cX12_image, 1, (some .int), [])
abbrev mX12_init : zM := (RX12, yX12_init, cX12_init, 1, none, [])
abbrev mX12_jam : zM := (RX12, yX12_jam, cX12_jam, 4, (some .int), [])
abbrev mX12_law : zM := (RX12, yX12_law, cX12_law, 2, (some .int), [])
abbrev mX12_look : zM := (RX12, yX12_look, cX12_look, 7, (some .int), [])
abbrev mX12_meet : zM := (RX12, yX12_meet, cX12_meet, 5, (some .int), [])
abbrev mX12_nameOfPlace : zM := (RX12, yX12_nameOfPlace, cX12_nameOfPlace, 1, (some .int), [])
abbrev mX12_needLength : zM := (RX12, yX12_needLength, cX12_needLength, 3, none, [])
abbrev mX12_needNet : zM := (RX12, yX12_needNet, cX12_needNet, 2, none, [])
abbrev mX12_needPlace : zM := (RX12, yX12_needPlace, cX12_needPlace, 3, none, [])
abbrev mX12_needRange : zM := (RX12, yX12_needRange, cX12_needRange, 4, none, [])
abbrev mX12_needRow : zM := (RX12, yX12_needRow, cX12_needRow, 2, none, [])
abbrev mX12_needWhat : zM := (RX12, yX12_needWhat, cX12_needWhat, 3, none, [])
abbrev mX12_net : zM := (RX12, yX12_net, cX12_net, 3, (some .int), [])
abbrev mX12_parent : zM := (RX12, yX12_parent, cX12_parent, 4, (some .int), [])
abbrev mX12_place : zM := (RX12, yX12_place, cX12_place, 5, (some .int), [])
abbrev mX12_restore : zM := (RX12, yX12_restore, cX12_restore, 1, (some .int), [])
abbrev mX12_season : zM := (RX12, yX12_season, cX12_season, 5, (some .int), [])
abbrev mX12_settled : zM := (RX12, yX12_settled, cX12_settled, 2, (some .int), [])
abbrev mX12_shed : zM := (RX12, yX12_shed, cX12_shed, 2, (some .int), [])
abbrev mX12_span : zM := (RX12, yX12_span, cX12_span, 12, (some .int), [])
abbrev mX12_spared : zM := (RX12, yX12_spared, cX12_spared, 4, (some .int), [])
abbrev mX12_startAnew : zM := (RX12, yX12_startAnew, cX12_startAnew, 1, none, [])
abbrev mX12_status : zM := (RX12, yX12_status, cX12_status, 2, (some .int), [])
abbrev mX12_tight : zM := (RX12, yX12_tight, cX12_tight, 6, (some .int), [])
abbrev mX12_told : zM := (RX12, yX12_told, cX12_told, 2, (some .int), [])
abbrev mX12_tree : zM := (RX12, yX12_tree, cX12_tree, 5, (some .int), [])
abbrev mX12_undo : zM := (RX12, yX12_undo, cX12_undo, 1, (some .int), [])
abbrev mX12_work : zM := (RX12, yX12_work, cX12_work, 3, (some .int), [])
abbrev mX12_would : zM := (RX12, yX12_would, cX12_would, 10, (some .int), [])
abbrev mX13_ahead : zM := (RX13, yX13_ahead, cX13_ahead, 3, (some .int), [])
abbrev mX13_asTold : zM := (RX13, yX13_asTold, cX13_asTold, 1, (some .int), [])
abbrev mX13_away : zM := (RX13, yX13_away, cX13_away, 4, (some .int), [])
abbrev mX13_bad : zM := (RX13, yX13_bad, cX13_bad, 4, (some .boolean), [])
abbrev mX13_beginsAnew : zM := (RX13, yX13_beginsAnew, cX13_beginsAnew, 2, none, [])
abbrev mX13_blanks : zM := (RX13, yX13_blanks, cX13_blanks, 1, none, [])
abbrev mX13_blocks : zM := (RX13, yX13_blocks, cX13_blocks, 3, (some .boolean), [])
abbrev mX13_board : zM := (RX13, yX13_board, cX13_board, 2, (some .int), [])
abbrev mX13_book : zM := (RX13, yX13_book, cX13_book, 8, (some .int), [])
abbrev mX13_by : zM := (RX13, yX13_by, cX13_by, 3, (some .int), [])
abbrev mX13_byLaw : zM := (RX13, yX13_byLaw, cX13_byLaw, 3, (some .int), [])
abbrev mX13_byteAt : zM := (RX13, yX13_byteAt, cX13_byteAt, 2, (some .int), [])
abbrev mX13_childrenOf : zM := (RX13, yX13_childrenOf, cX13_childrenOf, 6, (some .int), [])
abbrev mX13_clause : zM := (RX13, yX13_clause, cX13_clause, 4, none, [])
abbrev mX13_copies : zM := (RX13, yX13_copies, cX13_copies, 3, none, [])
abbrev mX13_cost : zM := (RX13, yX13_cost, cX13_cost, 4, (some .int), [])
abbrev mX13_costBy : zM := (RX13, yX13_costBy, cX13_costBy, 9, (some .int), [])
abbrev mX13_costOf : zM := (RX13, yX13_costOf, cX13_costOf, 5, (some .int), [])
abbrev mX13_count : zM := (RX13, yX13_count, cX13_count, 2, (some .int), [])
abbrev mX13_countsUses : zM := (RX13, yX13_countsUses, cX13_countsUses, 4, none, [])
abbrev mX13_crits : zM := (RX13, yX13_crits, cX13_crits, 3, (some .boolean), [])
abbrev mX13_crowd : zM := (RX13, yX13_crowd, cX13_crowd, 4, (some .int), [])
abbrev mX13_dear : zM := (RX13, yX13_dear, cX13_dear, 4, (some .int), [])
abbrev mX13_delay : zM := (RX13, yX13_delay, cX13_delay, 5, (some .int), [])
abbrev mX13_dist : zM := (RX13, yX13_dist, cX13_dist, 4, (some .int), [])
abbrev mX13_does : zM := (RX13, yX13_does, cX13_does, 3, (some .boolean), [])
abbrev mX13_draw : zM := (RX13, yX13_draw, cX13_draw, 2, (some .int), [])
abbrev mX13_eases : zM := (RX13, yX13_eases, cX13_eases, 3, none, [])
abbrev mX13_ends : zM := (RX13, yX13_ends, cX13_ends, 1, (some .int), [])
abbrev mX13_fault : zM := (RX13, yX13_fault, cX13_fault, 1, (some .int), [])
abbrev mX13_feed : zM := (RX13, yX13_feed, cX13_feed, 8, (some .int), [])
abbrev mX13_fewest : zM := (RX13, yX13_fewest, cX13_fewest, 5, (some .int), [])
abbrev mX13_fits : zM := (RX13, yX13_fits, cX13_fits, 6, (some .int), [])
abbrev mX13_goes : zM := (RX13, yX13_goes, cX13_goes, 5, none, [])
abbrev mX13_goesOn : zM := (RX13, yX13_goesOn, cX13_goesOn, 3, none, [])
abbrev mX13_grows : zM := (RX13, yX13_grows, cX13_grows, 5, none, [])
abbrev mX13_image : zM := (RX13, yX13_image, cX13_image, 1, (some .int), [])
abbrev mX13_in : zM := (RX13, yX13_in, cX13_in, 3, (some .boolean), [])
abbrev mX13_init : zM := (RX13, yX13_init, cX13_init, 1, none, [])
abbrev mX13_isDigit : zM := (RX13, yX13_isDigit, cX13_isDigit, 1, (some .boolean), [])
abbrev mX13_isDone : zM := (RX13, yX13_isDone, cX13_isDone, 2, (some .boolean), [])
abbrev mX13_isFree : zM := (RX13, yX13_isFree, cX13_isFree, 5, (some .boolean), [])
abbrev mX13_isHere : zM := (RX13, yX13_isHere, cX13_isHere, 2, (some .boolean), [])
abbrev mX13_isIn : zM := (RX13, yX13_isIn, cX13_isIn, 3, (some .boolean), [])
abbrev mX13_isJoined : zM := (RX13, yX13_isJoined, cX13_isJoined, 4, (some .boolean), [])
abbrev mX13_isNet : zM := (RX13, yX13_isNet, cX13_isNet, 2, (some .boolean), [])
abbrev mX13_isPin : zM := (RX13, yX13_isPin, cX13_isPin, 4, (some .boolean), [])
abbrev mX13_isSeason : zM := (RX13, yX13_isSeason, cX13_isSeason, 2, (some .boolean), [])
abbrev mX13_isSmall : zM := (RX13, yX13_isSmall, cX13_isSmall, 1, (some .boolean), [])
abbrev mX13_isSo : zM := (RX13, yX13_isSo, cX13_isSo, 4, (some .boolean), [])
abbrev mX13_isTold : zM := (RX13, yX13_isTold, cX13_isTold, 3, (some .boolean), [])
abbrev mX13_isWithin : zM := (RX13, yX13_isWithin, cX13_isWithin, 3, (some .boolean), [])
abbrev mX13_isWord : zM := (RX13, yX13_isWord, cX13_isWord, 7, (some .boolean), [])
abbrev mX13_jam : zM := (RX13, yX13_jam, cX13_jam, 4, (some .int), [])
abbrev mX13_joinedOnes : zM := (RX13, yX13_joinedOnes, cX13_joinedOnes, 4, (some .int), [])
abbrev mX13_kindHere : zM := (RX13, yX13_kindHere, cX13_kindHere, 1, (some .int), [])
abbrev mX13_knownHere : zM := (RX13, yX13_knownHere, cX13_knownHere, 1, (some .int), [])
abbrev mX13_late : zM := (RX13, yX13_late, cX13_late, 3, (some .int), [])
abbrev mX13_law : zM := (RX13, yX13_law, cX13_law, 2, (some .int), [])
abbrev mX13_lays : zM := (RX13, yX13_lays, cX13_lays, 5, none, [])
abbrev mX13_laysOne : zM := (RX13, yX13_laysOne, cX13_laysOne, 3, (some .boolean), [])
abbrev mX13_laysPins : zM := (RX13, yX13_laysPins, cX13_laysPins, 4, none, [])
abbrev mX13_less : zM := (RX13, yX13_less, cX13_less, 2, (some .int), [])
abbrev mX13_look : zM := (RX13, yX13_look, cX13_look, 7, (some .int), [])
abbrev mX13_meet : zM := (RX13, yX13_meet, cX13_meet, 5, (some .int), [])
abbrev mX13_meets : zM := (RX13, yX13_meets, cX13_meets, 4, none, [])
abbrev mX13_more : zM := (RX13, yX13_more, cX13_more, 2, (some .int), [])
abbrev mX13_neighbour : zM := (RX13, yX13_neighbour, cX13_neighbour, 5, (some .int), [])
abbrev mX13_net : zM := (RX13, yX13_net, cX13_net, 3, (some .int), [])
abbrev mX13_nextPin : zM := (RX13, yX13_nextPin, cX13_nextPin, 6, (some .int), [])
abbrev mX13_notes : zM := (RX13, yX13_notes, cX13_notes, 3, none, [])
abbrev mX13_number : zM := (RX13, yX13_number, cX13_number, 5, (some .int), [])
abbrev mX13_ofTree : zM := (RX13, yX13_ofTree, cX13_ofTree, 7, (some .int), [])
abbrev mX13_onceBy : zM := (RX13, yX13_onceBy, cX13_onceBy, 5, none, [])
abbrev mX13_one : zM := (RX13, yX13_one, cX13_one, 3, none, [])
abbrev mX13_ones : zM := (RX13, yX13_ones, cX13_ones, 3, (some .int), [])
abbrev mX13_opensOne : zM := (RX13, yX13_opensOne, cX13_opensOne, 1, (some .boolean), [])
abbrev mX13_over : zM := (RX13, yX13_over, cX13_over, 3, (some .int), [])
abbrev mX13_overOf : zM := (RX13, yX13_overOf, cX13_overOf, 5, (some .int), [])
abbrev mX13_overs : zM := (RX13, yX13_overs, cX13_overs, 4, (some .int), [])
abbrev mX13_parent : zM := (RX13, yX13_parent, cX13_parent, 4, (some .int), [])
abbrev mX13_parentBy : zM := (RX13, yX13_parentBy, cX13_parentBy, 4, (some .int), [])
abbrev mX13_pinClause : zM := (RX13, yX13_pinClause, cX13_pinClause, 4, none, [])
abbrev mX13_pinned : zM := (RX13, yX13_pinned, cX13_pinned, 4, (some .int), [])
abbrev mX13_place : zM := (RX13, yX13_place, cX13_place, 5, (some .int), [])
abbrev mX13_placeHere : zM := (RX13, yX13_placeHere, cX13_placeHere, 3, (some .int), [])
abbrev mX13_placeTold : zM := (RX13, yX13_placeTold, cX13_placeTold, 3, (some .int), [])
abbrev mX13_placesOf : zM := (RX13, yX13_placesOf, cX13_placesOf, 4, (some .int), [])
abbrev mX13_placesOfAll : zM := (RX13, yX13_placesOfAll, cX13_placesOfAll, 4, (some .int), [])
abbrev mX13_product : zM := (RX13, yX13_product, cX13_product, 2, none, [])
abbrev mX13_puts : zM := (RX13, yX13_puts, cX13_puts, 4, (some .int), [])
abbrev mX13_putsAll : zM := (RX13, yX13_putsAll, cX13_putsAll, 5, none, [])
abbrev mX13_readsStep : zM := (RX13, yX13_readsStep, cX13_readsStep, 3, none, [])
abbrev mX13_restore : zM := (RX13, yX13_restore, cX13_restore, 1, (some .int), [])
abbrev mX13_rips : zM := (RX13, yX13_rips, cX13_rips, 3, (some .boolean), [])
abbrev mX13_ripsAll : zM := (RX13, yX13_ripsAll, cX13_ripsAll, 3, none, [])
abbrev mX13_roundEnds : zM := (RX13, yX13_roundEnds, cX13_roundEnds, 3, none, [])
abbrev mX13_season : zM := (RX13, yX13_season, cX13_season, 5, (some .int), [])
abbrev mX13_seasonBy : zM := (RX13, yX13_seasonBy, cX13_seasonBy, 5, none, [])
abbrev mX13_settled : zM := (RX13, yX13_settled, cX13_settled, 2, (some .int), [])
abbrev mX13_shed : zM := (RX13, yX13_shed, cX13_shed, 2, (some .int), [])
abbrev mX13_sheds : zM := (RX13, yX13_sheds, cX13_sheds, 5, (some .int), [])
abbrev mX13_sign : zM := (RX13, yX13_sign, cX13_sign, 2, none, [])
abbrev mX13_six : zM := (RX13, yX13_six, cX13_six, 7, (some .int), [])
abbrev mX13_skipWord : zM := (RX13, yX13_skipWord, cX13_skipWord, 1, none, [])
abbrev mX13_span : zM := (RX13, yX13_span, cX13_span, 12, (some .int), [])
abbrev mX13_spared : zM := (RX13, yX13_spared, cX13_spared, 7, (some .int), [])
abbrev mX13_spreads : zM := (RX13, yX13_spreads, cX13_spreads, 7, none, [])
abbrev mX13_starts : zM := (RX13, yX13_starts, cX13_starts, 2, none, [])
abbrev mX13_status : zM := (RX13, yX13_status, cX13_status, 2, (some .int), [])
abbrev mX13_stepHere : zM := (RX13, yX13_stepHere, cX13_stepHere, 1, (some .int), [])
abbrev mX13_stepsOf : zM := (RX13, yX13_stepsOf, cX13_stepsOf, 6, (some .int), [])
abbrev mX13_sum : zM := (RX13, yX13_sum, cX13_sum, 2, none, [])
abbrev mX13_sumOf : zM := (RX13, yX13_sumOf, cX13_sumOf, 4, (some .int), [])
abbrev mX13_takes : zM := (RX13, yX13_takes, cX13_takes, 8, (some .boolean), [])
abbrev mX13_takesSign : zM := (RX13, yX13_takesSign, cX13_takesSign, 3, (some .boolean), [])
abbrev mX13_tellsNothing : zM := (RX13, yX13_tellsNothing, cX13_tellsNothing, 2, none, [])
abbrev mX13_thrown : zM := (RX13, yX13_thrown, cX13_thrown, 1, (some .int), [])
abbrev mX13_tight : zM := (RX13, yX13_tight, cX13_tight, 4, (some .int), [])
abbrev mX13_told : zM := (RX13, yX13_told, cX13_told, 2, (some .int), [])
abbrev mX13_tree : zM := (RX13, yX13_tree, cX13_tree, 5, (some .int), [])
abbrev mX13_treeOf : zM := (RX13, yX13_treeOf, cX13_treeOf, 2, (some .int), [])
abbrev mX13_tries : zM := (RX13, yX13_tries, cX13_tries, 3, (some .boolean), [])
abbrev mX13_undo : zM := (RX13, yX13_undo, cX13_undo, 1, (some .int), [])
abbrev mX13_users : zM := (RX13, yX13_users, cX13_users, 5, (some .int), [])
abbrev mX13_widens : zM := (RX13, yX13_widens, cX13_widens, 6, none, [])
abbrev mX13_wordHere : zM := (RX13, yX13_wordHere, cX13_wordHere, 3, (some .int), [])
abbrev mX13_work : zM := (RX13, yX13_work, cX13_work, 2, (some .int), [])
abbrev mX13_would : zM := (RX13, yX13_would, cX13_would, 9, (some .int), [])
abbrev mX13_wrong : zM := (RX13, yX13_wrong, cX13_wrong, 3, none, [])
abbrev mX1_copyFrom : zM := (RX1, yX1_copyFrom, cX1_copyFrom, 2, none, [])
abbrev mX1_forget : zM := (RX1, yX1_forget, cX1_forget, 1, none, [])
abbrev mX1_hasLineAt : zM := (RX1, yX1_hasLineAt, cX1_hasLineAt, 3, (some .boolean), [])
abbrev mX1_init : zM := (RX1, yX1_init, cX1_init, 1, none, [])
abbrev mX1_isRightBy : zM := (RX1, yX1_isRightBy, cX1_isRightBy, 3, (some .boolean), [])
abbrev mX1_read : zM := (RX1, yX1_read, cX1_read, 4, none, [])
abbrev mX1_readLine : zM := (RX1, yX1_readLine, cX1_readLine, 7, none, [])
abbrev mX2_biggestGroup : zM := (RX2, yX2_biggestGroup, cX2_biggestGroup, 6, (some .int), [])
abbrev mX2_findPairs : zM := (RX2, yX2_findPairs, cX2_findPairs, 7, (some .int), [])
abbrev mX2_init : zM := (RX2, yX2_init, cX2_init, 4, none, [])
abbrev mX3_clear : zM := (RX3, yX3_clear, cX3_clear, 1, none, [])
abbrev mX3_init : zM := (RX3, yX3_init, cX3_init, 1, none, [])
abbrev mX3_isEmpty : zM := (RX3, yX3_isEmpty, cX3_isEmpty, 1, (some .boolean), [])
abbrev mX3_pop : zM := (RX3, yX3_pop, cX3_pop, 5, (some .int), [])
abbrev mX3_push : zM := (RX3, yX3_push, cX3_push, 3, none, [])
abbrev mX4_fewestPlaces : zM := (RX4, yX4_fewestPlaces, cX4_fewestPlaces, 6, (some .int), [])
abbrev mX4_init : zM := (RX4, yX4_init, cX4_init, 2, none, [])
abbrev mX4_joinParts : zM := (RX4, yX4_joinParts, cX4_joinParts, 5, none, [])
abbrev mX4_stepOn : zM := (RX4, yX4_stepOn, cX4_stepOn, 10, none, [])
abbrev mX5_copyFrom : zM := (RX5, yX5_copyFrom, cX5_copyFrom, 2, none, [])
abbrev mX5_emit : zM := (RX5, yX5_emit, cX5_emit, 2, none, [])
abbrev mX5_forget : zM := (RX5, yX5_forget, cX5_forget, 1, none, [])
abbrev mX5_init : zM := (RX5, yX5_init, cX5_init, 1, none, [])
abbrev mX5_priceNow : zM := (RX5, yX5_priceNow, cX5_priceNow, 7, (some .int), [])
abbrev mX5_read : zM := (RX5, yX5_read, cX5_read, 2, none, [])
abbrev mX5_readInside : zM := (RX5, yX5_readInside, cX5_readInside, 3, none, [])
abbrev mX5_readName : zM := (RX5, yX5_readName, cX5_readName, 3, none, [])
abbrev mX5_readPair : zM := (RX5, yX5_readPair, cX5_readPair, 4, none, [])
abbrev mX5_readProduct : zM := (RX5, yX5_readProduct, cX5_readProduct, 5, none, [])
abbrev mX5_readSum : zM := (RX5, yX5_readSum, cX5_readSum, 5, none, [])
abbrev mX5_readUnit : zM := (RX5, yX5_readUnit, cX5_readUnit, 3, none, [])
abbrev mX6_distanceTo : zM := (RX6, yX6_distanceTo, cX6_distanceTo, 4, (some .int), [])
abbrev mX6_easeAll : zM := (RX6, yX6_easeAll, cX6_easeAll, 5, none, [])
abbrev mX6_goRound : zM := (RX6, yX6_goRound, cX6_goRound, 4, none, [])
abbrev mX6_grow : zM := (RX6, yX6_grow, cX6_grow, 5, none, [])
abbrev mX6_init : zM := (RX6, yX6_init, cX6_init, 4, none, [])
abbrev mX6_isClear : zM := (RX6, yX6_isClear, cX6_isClear, 7, (some .boolean), [])
abbrev mX6_layAnew : zM := (RX6, yX6_layAnew, cX6_layAnew, 3, (some .boolean), [])
abbrev mX6_layBack : zM := (RX6, yX6_layBack, cX6_layBack, 7, none, [])
abbrev mX6_markKept : zM := (RX6, yX6_markKept, cX6_markKept, 6, (some .int), [])
abbrev mX6_nearestPin : zM := (RX6, yX6_nearestPin, cX6_nearestPin, 7, (some .int), [])
abbrev mX6_perform : zM := (RX6, yX6_perform, cX6_perform, 6, (some .boolean), [])
abbrev mX6_priceOf : zM := (RX6, yX6_priceOf, cX6_priceOf, 7, (some .int), [])
abbrev mX6_ripUp : zM := (RX6, yX6_ripUp, cX6_ripUp, 3, (some .boolean), [])
abbrev mX6_sparedOf : zM := (RX6, yX6_sparedOf, cX6_sparedOf, 8, (some .int), [])
abbrev mX6_spread : zM := (RX6, yX6_spread, cX6_spread, 11, none, [])
abbrev mX6_tearShared : zM := (RX6, yX6_tearShared, cX6_tearShared, 4, none, [])
abbrev mX6_turnWall : zM := (RX6, yX6_turnWall, cX6_turnWall, 3, (some .boolean), [])
abbrev mX6_wayBack : zM := (RX6, yX6_wayBack, cX6_wayBack, 4, (some .int), [])
abbrev mX7_forget : zM := (RX7, yX7_forget, cX7_forget, 1, none, [])
abbrev mX7_init : zM := (RX7, yX7_init, cX7_init, 1, none, [])
abbrev mX7_keepImage : zM := (RX7, yX7_keepImage, cX7_keepImage, 3, none, [])
abbrev mX7_keepWork : zM := (RX7, yX7_keepWork, cX7_keepWork, 2, none, [])
abbrev mX7_takeImage : zM := (RX7, yX7_takeImage, cX7_takeImage, 3, none, [])
abbrev mX7_takeWork : zM := (RX7, yX7_takeWork, cX7_takeWork, 2, none, [])
abbrev mX8_copyFrom : zM := (RX8, yX8_copyFrom, cX8_copyFrom, 2, none, [])
abbrev mX8_drop : zM := (RX8, yX8_drop, cX8_drop, 3, none, [])
abbrev mX8_dropAll : zM := (RX8, yX8_dropAll, cX8_dropAll, 4, (some .boolean), [])
abbrev mX8_has : zM := (RX8, yX8_has, cX8_has, 3, (some .boolean), [])
abbrev mX8_init : zM := (RX8, yX8_init, cX8_init, 1, none, [])
abbrev mX8_put : zM := (RX8, yX8_put, cX8_put, 4, none, [])
abbrev mX8_sizeOf : zM := (RX8, yX8_sizeOf, cX8_sizeOf, 4, (some .int), [])
abbrev mX8_start : zM := (RX8, yX8_start, cX8_start, 2, none, [])
abbrev mX9_above : zM := (RX9, yX9_above, cX9_above, 5, (some .int), [])
abbrev mX9_allIsDone : zM := (RX9, yX9_allIsDone, cX9_allIsDone, 2, (some .boolean), [])
abbrev mX9_countChildren : zM := (RX9, yX9_countChildren, cX9_countChildren, 5, none, [])
abbrev mX9_deepestOf : zM := (RX9, yX9_deepestOf, cX9_deepestOf, 6, (some .int), [])
abbrev mX9_delayOf : zM := (RX9, yX9_delayOf, cX9_delayOf, 6, (some .int), [])
abbrev mX9_forksOf : zM := (RX9, yX9_forksOf, cX9_forksOf, 5, (some .int), [])
abbrev mX9_historiesTogether : zM := (RX9, yX9_historiesTogether, cX9_historiesTogether, 4, (some .int), [])
abbrev mX9_init : zM := (RX9, yX9_init, cX9_init, 2, none, [])
abbrev mX9_isJoined : zM := (RX9, yX9_isJoined, cX9_isJoined, 4, (some .boolean), [])
abbrev mX9_joinedBits : zM := (RX9, yX9_joinedBits, cX9_joinedBits, 4, (some .int), [])
abbrev mX9_lateBits : zM := (RX9, yX9_lateBits, cX9_lateBits, 5, (some .int), [])
abbrev mX9_leavesOf : zM := (RX9, yX9_leavesOf, cX9_leavesOf, 5, (some .int), [])
abbrev mX9_netBits : zM := (RX9, yX9_netBits, cX9_netBits, 5, (some .int), [])
abbrev mX9_overAt : zM := (RX9, yX9_overAt, cX9_overAt, 4, (some .int), [])
abbrev mX9_overPlaces : zM := (RX9, yX9_overPlaces, cX9_overPlaces, 4, (some .int), [])
abbrev mX9_overPlacesOf : zM := (RX9, yX9_overPlacesOf, cX9_overPlacesOf, 5, (some .int), [])
abbrev mX9_stepsToRoot : zM := (RX9, yX9_stepsToRoot, cX9_stepsToRoot, 6, (some .int), [])
abbrev mX9_usesTogether : zM := (RX9, yX9_usesTogether, cX9_usesTogether, 4, (some .int), [])
abbrev mX9_wallPlaces : zM := (RX9, yX9_wallPlaces, cX9_wallPlaces, 4, (some .int), [])
set_option maxRecDepth 20000 in
theorem cu_0 : ∀ w ∈ u_ws RX0 TX0 12, w ∈ zGT := List.forall_mem_cons.mpr ⟨(zt1 149 rfl rfl), List.forall_mem_cons.mpr ⟨(zt1 151 rfl rfl), List.forall_mem_cons.mpr ⟨(zt1 153 rfl rfl), List.forall_mem_cons.mpr ⟨(zt1 155 rfl rfl), List.forall_mem_cons.mpr ⟨(zt1 157 rfl rfl), List.forall_mem_cons.mpr ⟨(zt1 159 rfl rfl), List.forall_mem_cons.mpr ⟨(zt1 161 rfl rfl), List.forall_mem_cons.mpr ⟨(zt1 163 rfl rfl), List.forall_mem_cons.mpr ⟨(zt1 165 rfl rfl), List.forall_mem_cons.mpr ⟨(zt1 167 rfl rfl), List.forall_mem_cons.mpr ⟨(zt1 169 rfl rfl), List.forall_mem_cons.mpr ⟨(zt1 171 rfl rfl), (fun _ h => absurd h List.not_mem_nil)⟩⟩⟩⟩⟩⟩⟩⟩⟩⟩⟩⟩
theorem cl_0 : zCl 0 RX0 TX0 12 := ⟨rfl, cu_0, ⟨tyX0, tyX0_ok, by decide +kernel⟩, nmX0, by decide +kernel, by decide +kernel⟩
set_option maxRecDepth 20000 in
theorem cu_1 : ∀ w ∈ u_ws RX1 TX1 3, w ∈ zGT := List.forall_mem_cons.mpr ⟨(zt1 214 rfl rfl), List.forall_mem_cons.mpr ⟨(zt1 216 rfl rfl), List.forall_mem_cons.mpr ⟨(zt1 218 rfl rfl), (fun _ h => absurd h List.not_mem_nil)⟩⟩⟩
theorem cl_1 : zCl 1 RX1 TX1 3 := ⟨rfl, cu_1, ⟨tyX1, tyX1_ok, by decide +kernel⟩, nmX1, by decide +kernel, by decide +kernel⟩
set_option maxRecDepth 20000 in
theorem cu_2 : ∀ w ∈ u_ws RX2 TX2 6, w ∈ zGT := List.forall_mem_cons.mpr ⟨(zt2 98 rfl rfl), List.forall_mem_cons.mpr ⟨(zt2 100 rfl rfl), List.forall_mem_cons.mpr ⟨(zt2 102 rfl rfl), List.forall_mem_cons.mpr ⟨(zt2 104 rfl rfl), List.forall_mem_cons.mpr ⟨(zt2 106 rfl rfl), List.forall_mem_cons.mpr ⟨(zt2 108 rfl rfl), (fun _ h => absurd h List.not_mem_nil)⟩⟩⟩⟩⟩⟩
theorem cl_2 : zCl 2 RX2 TX2 6 := ⟨rfl, cu_2, ⟨tyX2, tyX2_ok, by decide +kernel⟩, nmX2, by decide +kernel, by decide +kernel⟩
set_option maxRecDepth 20000 in
theorem cu_3 : ∀ w ∈ u_ws RX3 TX3 2, w ∈ zGT := List.forall_mem_cons.mpr ⟨(zt2 40 rfl rfl), List.forall_mem_cons.mpr ⟨(zt2 42 rfl rfl), (fun _ h => absurd h List.not_mem_nil)⟩⟩
theorem cl_3 : zCl 3 RX3 TX3 2 := ⟨rfl, cu_3, ⟨tyX3, tyX3_ok, by decide +kernel⟩, nmX3, by decide +kernel, by decide +kernel⟩
set_option maxRecDepth 20000 in
theorem cu_4 : ∀ w ∈ u_ws RX4 TX4 3, w ∈ zGT := List.forall_mem_cons.mpr ⟨(zt2 78 rfl rfl), List.forall_mem_cons.mpr ⟨(zt2 80 rfl rfl), List.forall_mem_cons.mpr ⟨(zt2 82 rfl rfl), (fun _ h => absurd h List.not_mem_nil)⟩⟩⟩
theorem cl_4 : zCl 4 RX4 TX4 3 := ⟨rfl, cu_4, ⟨tyX4, tyX4_ok, by decide +kernel⟩, nmX4, by decide +kernel, by decide +kernel⟩
set_option maxRecDepth 20000 in
theorem cu_5 : ∀ w ∈ u_ws RX5 TX5 4, w ∈ zGT := List.forall_mem_cons.mpr ⟨(zt1 195 rfl rfl), List.forall_mem_cons.mpr ⟨(zt1 197 rfl rfl), List.forall_mem_cons.mpr ⟨(zt1 199 rfl rfl), List.forall_mem_cons.mpr ⟨(zt1 201 rfl rfl), (fun _ h => absurd h List.not_mem_nil)⟩⟩⟩⟩
theorem cl_5 : zCl 5 RX5 TX5 4 := ⟨rfl, cu_5, ⟨tyX5, tyX5_ok, by decide +kernel⟩, nmX5, by decide +kernel, by decide +kernel⟩
set_option maxRecDepth 20000 in
theorem cu_6 : ∀ w ∈ u_ws RX6 TX6 7, w ∈ zGT := List.forall_mem_cons.mpr ⟨(zt2 52 rfl rfl), List.forall_mem_cons.mpr ⟨(zt2 54 rfl rfl), List.forall_mem_cons.mpr ⟨(zt2 56 rfl rfl), List.forall_mem_cons.mpr ⟨(zt2 58 rfl rfl), List.forall_mem_cons.mpr ⟨(zt2 60 rfl rfl), List.forall_mem_cons.mpr ⟨(zt2 62 rfl rfl), List.forall_mem_cons.mpr ⟨(zt2 64 rfl rfl), (fun _ h => absurd h List.not_mem_nil)⟩⟩⟩⟩⟩⟩⟩
theorem cl_6 : zCl 6 RX6 TX6 7 := ⟨rfl, cu_6, ⟨tyX6, tyX6_ok, by decide +kernel⟩, nmX6, by decide +kernel, by decide +kernel⟩
set_option maxRecDepth 20000 in
theorem cu_7 : ∀ w ∈ u_ws RX7 TX7 6, w ∈ zGT := List.forall_mem_cons.mpr ⟨(zt2 127 rfl rfl), List.forall_mem_cons.mpr ⟨(zt2 129 rfl rfl), List.forall_mem_cons.mpr ⟨(zt2 131 rfl rfl), List.forall_mem_cons.mpr ⟨(zt2 133 rfl rfl), List.forall_mem_cons.mpr ⟨(zt2 135 rfl rfl), List.forall_mem_cons.mpr ⟨(zt2 137 rfl rfl), (fun _ h => absurd h List.not_mem_nil)⟩⟩⟩⟩⟩⟩
theorem cl_7 : zCl 7 RX7 TX7 6 := ⟨rfl, cu_7, ⟨tyX7, tyX7_ok, by decide +kernel⟩, nmX7, by decide +kernel, by decide +kernel⟩
set_option maxRecDepth 20000 in
theorem cu_8 : ∀ w ∈ u_ws RX8 TX8 6, w ∈ zGT := List.forall_mem_cons.mpr ⟨(zt2 169 rfl rfl), List.forall_mem_cons.mpr ⟨(zt2 171 rfl rfl), List.forall_mem_cons.mpr ⟨(zt2 173 rfl rfl), List.forall_mem_cons.mpr ⟨(zt2 175 rfl rfl), List.forall_mem_cons.mpr ⟨(zt2 177 rfl rfl), List.forall_mem_cons.mpr ⟨(zt2 179 rfl rfl), (fun _ h => absurd h List.not_mem_nil)⟩⟩⟩⟩⟩⟩
theorem cl_8 : zCl 8 RX8 TX8 6 := ⟨rfl, cu_8, ⟨tyX8, tyX8_ok, by decide +kernel⟩, nmX8, by decide +kernel, by decide +kernel⟩
set_option maxRecDepth 20000 in
theorem cu_9 : ∀ w ∈ u_ws RX9 TX9 2, w ∈ zGT := List.forall_mem_cons.mpr ⟨(zt2 21 rfl rfl), List.forall_mem_cons.mpr ⟨(zt2 23 rfl rfl), (fun _ h => absurd h List.not_mem_nil)⟩⟩
theorem cl_9 : zCl 9 RX9 TX9 2 := ⟨rfl, cu_9, ⟨tyX9, tyX9_ok, by decide +kernel⟩, nmX9, by decide +kernel, by decide +kernel⟩
set_option maxRecDepth 20000 in
theorem cu_10 : ∀ w ∈ u_ws RX10 TX10 7, w ∈ zGT := List.forall_mem_cons.mpr ⟨(zt1 56 rfl rfl), List.forall_mem_cons.mpr ⟨(zt1 58 rfl rfl), List.forall_mem_cons.mpr ⟨(zt1 60 rfl rfl), List.forall_mem_cons.mpr ⟨(zt1 62 rfl rfl), List.forall_mem_cons.mpr ⟨(zt1 64 rfl rfl), List.forall_mem_cons.mpr ⟨(zt1 66 rfl rfl), List.forall_mem_cons.mpr ⟨(zt1 68 rfl rfl), (fun _ h => absurd h List.not_mem_nil)⟩⟩⟩⟩⟩⟩⟩
theorem cl_10 : zCl 10 RX10 TX10 7 := ⟨rfl, cu_10, ⟨tyX10, tyX10_ok, by decide +kernel⟩, nmX10, by decide +kernel, by decide +kernel⟩
set_option maxRecDepth 20000 in
theorem cu_11 : ∀ w ∈ u_ws RX11 TX11 8, w ∈ zGT := List.forall_mem_cons.mpr ⟨(zt1 236 rfl rfl), List.forall_mem_cons.mpr ⟨(zt1 238 rfl rfl), List.forall_mem_cons.mpr ⟨(zt2 0 rfl rfl), List.forall_mem_cons.mpr ⟨(zt2 2 rfl rfl), List.forall_mem_cons.mpr ⟨(zt2 4 rfl rfl), List.forall_mem_cons.mpr ⟨(zt2 6 rfl rfl), List.forall_mem_cons.mpr ⟨(zt2 8 rfl rfl), List.forall_mem_cons.mpr ⟨(zt2 10 rfl rfl), (fun _ h => absurd h List.not_mem_nil)⟩⟩⟩⟩⟩⟩⟩⟩
theorem cl_11 : zCl 11 RX11 TX11 8 := ⟨rfl, cu_11, ⟨tyX11, tyX11_ok, by decide +kernel⟩, nmX11, by decide +kernel, by decide +kernel⟩
set_option maxRecDepth 20000 in
theorem cu_12 : ∀ w ∈ u_ws RX12 TX12 19, w ∈ zGT := List.forall_mem_cons.mpr ⟨(zt2 220 rfl rfl), List.forall_mem_cons.mpr ⟨(zt2 222 rfl rfl), List.forall_mem_cons.mpr ⟨(zt2 224 rfl rfl), List.forall_mem_cons.mpr ⟨(zt2 226 rfl rfl), List.forall_mem_cons.mpr ⟨(zt2 228 rfl rfl), List.forall_mem_cons.mpr ⟨(zt2 230 rfl rfl), List.forall_mem_cons.mpr ⟨(zt2 232 rfl rfl), List.forall_mem_cons.mpr ⟨(zt2 234 rfl rfl), List.forall_mem_cons.mpr ⟨(zt2 236 rfl rfl), List.forall_mem_cons.mpr ⟨(zt2 238 rfl rfl), List.forall_mem_cons.mpr ⟨(zt3 0 rfl rfl), List.forall_mem_cons.mpr ⟨(zt3 2 rfl rfl), List.forall_mem_cons.mpr ⟨(zt3 4 rfl rfl), List.forall_mem_cons.mpr ⟨(zt3 6 rfl rfl), List.forall_mem_cons.mpr ⟨(zt3 8 rfl rfl), List.forall_mem_cons.mpr ⟨(zt3 10 rfl rfl), List.forall_mem_cons.mpr ⟨(zt3 12 rfl rfl), List.forall_mem_cons.mpr ⟨(zt3 14 rfl rfl), List.forall_mem_cons.mpr ⟨(zt3 16 rfl rfl), (fun _ h => absurd h List.not_mem_nil)⟩⟩⟩⟩⟩⟩⟩⟩⟩⟩⟩⟩⟩⟩⟩⟩⟩⟩⟩
theorem cl_12 : zCl 12 RX12 TX12 19 := ⟨rfl, cu_12, ⟨tyX12, tyX12_ok, by decide +kernel⟩, nmX12, by decide +kernel, by decide +kernel⟩
set_option maxRecDepth 20000 in
theorem cu_13 : ∀ w ∈ u_ws RX13 TX13 48, w ∈ zGT := List.forall_mem_cons.mpr ⟨(zt7 13 rfl rfl), List.forall_mem_cons.mpr ⟨(zt7 15 rfl rfl), List.forall_mem_cons.mpr ⟨(zt7 17 rfl rfl), List.forall_mem_cons.mpr ⟨(zt7 19 rfl rfl), List.forall_mem_cons.mpr ⟨(zt7 21 rfl rfl), List.forall_mem_cons.mpr ⟨(zt7 23 rfl rfl), List.forall_mem_cons.mpr ⟨(zt7 25 rfl rfl), List.forall_mem_cons.mpr ⟨(zt7 27 rfl rfl), List.forall_mem_cons.mpr ⟨(zt7 29 rfl rfl), List.forall_mem_cons.mpr ⟨(zt7 31 rfl rfl), List.forall_mem_cons.mpr ⟨(zt7 33 rfl rfl), List.forall_mem_cons.mpr ⟨(zt7 35 rfl rfl), List.forall_mem_cons.mpr ⟨(zt7 37 rfl rfl), List.forall_mem_cons.mpr ⟨(zt7 39 rfl rfl), List.forall_mem_cons.mpr ⟨(zt7 41 rfl rfl), List.forall_mem_cons.mpr ⟨(zt7 43 rfl rfl), List.forall_mem_cons.mpr ⟨(zt7 45 rfl rfl), List.forall_mem_cons.mpr ⟨(zt7 47 rfl rfl), List.forall_mem_cons.mpr ⟨(zt7 49 rfl rfl), List.forall_mem_cons.mpr ⟨(zt7 51 rfl rfl), List.forall_mem_cons.mpr ⟨(zt7 53 rfl rfl), List.forall_mem_cons.mpr ⟨(zt7 55 rfl rfl), List.forall_mem_cons.mpr ⟨(zt7 57 rfl rfl), List.forall_mem_cons.mpr ⟨(zt7 59 rfl rfl), List.forall_mem_cons.mpr ⟨(zt7 61 rfl rfl), List.forall_mem_cons.mpr ⟨(zt7 63 rfl rfl), List.forall_mem_cons.mpr ⟨(zt7 65 rfl rfl), List.forall_mem_cons.mpr ⟨(zt7 67 rfl rfl), List.forall_mem_cons.mpr ⟨(zt7 69 rfl rfl), List.forall_mem_cons.mpr ⟨(zt7 71 rfl rfl), List.forall_mem_cons.mpr ⟨(zt7 73 rfl rfl), List.forall_mem_cons.mpr ⟨(zt7 75 rfl rfl), List.forall_mem_cons.mpr ⟨(zt7 77 rfl rfl), List.forall_mem_cons.mpr ⟨(zt7 79 rfl rfl), List.forall_mem_cons.mpr ⟨(zt7 81 rfl rfl), List.forall_mem_cons.mpr ⟨(zt7 83 rfl rfl), List.forall_mem_cons.mpr ⟨(zt7 85 rfl rfl), List.forall_mem_cons.mpr ⟨(zt7 87 rfl rfl), List.forall_mem_cons.mpr ⟨(zt7 89 rfl rfl), List.forall_mem_cons.mpr ⟨(zt7 91 rfl rfl), List.forall_mem_cons.mpr ⟨(zt7 93 rfl rfl), List.forall_mem_cons.mpr ⟨(zt7 95 rfl rfl), List.forall_mem_cons.mpr ⟨(zt7 97 rfl rfl), List.forall_mem_cons.mpr ⟨(zt7 99 rfl rfl), List.forall_mem_cons.mpr ⟨(zt7 101 rfl rfl), List.forall_mem_cons.mpr ⟨(zt7 103 rfl rfl), List.forall_mem_cons.mpr ⟨(zt7 105 rfl rfl), List.forall_mem_cons.mpr ⟨(zt7 107 rfl rfl), (fun _ h => absurd h List.not_mem_nil)⟩⟩⟩⟩⟩⟩⟩⟩⟩⟩⟩⟩⟩⟩⟩⟩⟩⟩⟩⟩⟩⟩⟩⟩⟩⟩⟩⟩⟩⟩⟩⟩⟩⟩⟩⟩⟩⟩⟩⟩⟩⟩⟩⟩⟩⟩⟩⟩
theorem cl_13 : zCl 13 RX13 TX13 48 := ⟨rfl, cu_13, ⟨tyX13, tyX13_ok, by decide +kernel⟩, nmX13, by decide +kernel, by decide +kernel⟩
theorem lf_X0_9 : zLF RX0 9 0 0 := ⟨RX0, TX0, 12, cl_0, by decide, (zt1 105 rfl rfl)⟩
theorem lf_X0_15 : zLF RX0 15 0 1 := ⟨RX0, TX0, 12, cl_0, by decide, (zt1 109 rfl rfl)⟩
theorem lf_X0_18 : zLF RX0 18 0 3 := ⟨RX0, TX0, 12, cl_0, by decide, (zt1 119 rfl rfl)⟩
theorem lf_X0_21 : zLF RX0 21 0 4 := ⟨RX0, TX0, 12, cl_0, by decide, (zt1 122 rfl rfl)⟩
theorem lr_X0_21 : zLR RX0 21 0 4 := ⟨RX0, TX0, 12, tyX0 4, cl_0, by decide, (zt1 122 rfl rfl), rfl, rfl, by decide +kernel, fun a => ⟨rfl, rfl⟩⟩
theorem lf_X0_25 : zLF RX0 25 0 5 := ⟨RX0, TX0, 12, cl_0, by decide, (zt1 124 rfl rfl)⟩
theorem lr_X0_25 : zLR RX0 25 0 5 := ⟨RX0, TX0, 12, tyX0 5, cl_0, by decide, (zt1 124 rfl rfl), rfl, rfl, by decide +kernel, fun a => ⟨rfl, rfl⟩⟩
theorem lf_X0_28 : zLF RX0 28 0 6 := ⟨RX0, TX0, 12, cl_0, by decide, (zt1 127 rfl rfl)⟩
theorem lr_X0_28 : zLR RX0 28 0 6 := ⟨RX0, TX0, 12, tyX0 6, cl_0, by decide, (zt1 127 rfl rfl), rfl, rfl, by decide +kernel, fun a => ⟨rfl, rfl⟩⟩
theorem lf_X0_31 : zLF RX0 31 0 7 := ⟨RX0, TX0, 12, cl_0, by decide, (zt1 132 rfl rfl)⟩
theorem lr_X0_31 : zLR RX0 31 0 7 := ⟨RX0, TX0, 12, tyX0 7, cl_0, by decide, (zt1 132 rfl rfl), rfl, rfl, by decide +kernel, fun a => ⟨rfl, rfl⟩⟩
theorem lf_X0_34 : zLF RX0 34 0 8 := ⟨RX0, TX0, 12, cl_0, by decide, (zt1 136 rfl rfl)⟩
theorem lr_X0_34 : zLR RX0 34 0 8 := ⟨RX0, TX0, 12, tyX0 8, cl_0, by decide, (zt1 136 rfl rfl), rfl, rfl, by decide +kernel, fun a => ⟨rfl, rfl⟩⟩
theorem lf_X0_37 : zLF RX0 37 0 9 := ⟨RX0, TX0, 12, cl_0, by decide, (zt1 139 rfl rfl)⟩
theorem lr_X0_37 : zLR RX0 37 0 9 := ⟨RX0, TX0, 12, tyX0 9, cl_0, by decide, (zt1 139 rfl rfl), rfl, rfl, by decide +kernel, fun a => ⟨rfl, rfl⟩⟩
theorem lf_X0_40 : zLF RX0 40 0 10 := ⟨RX0, TX0, 12, cl_0, by decide, (zt1 143 rfl rfl)⟩
theorem lr_X0_40 : zLR RX0 40 0 10 := ⟨RX0, TX0, 12, tyX0 10, cl_0, by decide, (zt1 143 rfl rfl), rfl, rfl, by decide +kernel, fun a => ⟨rfl, rfl⟩⟩
theorem lf_X0_43 : zLF RX0 43 0 11 := ⟨RX0, TX0, 12, cl_0, by decide, (zt1 145 rfl rfl)⟩
theorem lr_X0_43 : zLR RX0 43 0 11 := ⟨RX0, TX0, 12, tyX0 11, cl_0, by decide, (zt1 145 rfl rfl), rfl, rfl, by decide +kernel, fun a => ⟨rfl, rfl⟩⟩
theorem lf_X0_52 : zLF RX0 52 0 2 := ⟨RX0, TX0, 12, cl_0, by decide, (zt1 114 rfl rfl)⟩
theorem lf_X0_98 : zLF RX0 98 10 4 := ⟨RX10, TX10, 7, cl_10, by decide, (zt1 51 rfl rfl)⟩
theorem lf_X1_9 : zLF RX1 9 1 1 := ⟨RX1, TX1, 3, cl_1, by decide, (zt1 212 rfl rfl)⟩
theorem lr_X1_9 : zLR RX1 9 1 1 := ⟨RX1, TX1, 3, tyX1 1, cl_1, by decide, (zt1 212 rfl rfl), rfl, rfl, by decide +kernel, fun a => ⟨rfl, rfl⟩⟩
theorem lf_X1_15 : zLF RX1 15 1 2 := ⟨RX1, TX1, 3, cl_1, by decide, (zt1 213 rfl rfl)⟩
theorem lr_X1_15 : zLR RX1 15 1 2 := ⟨RX1, TX1, 3, tyX1 2, cl_1, by decide, (zt1 213 rfl rfl), rfl, rfl, by decide +kernel, fun a => ⟨rfl, rfl⟩⟩
theorem lf_X1_18 : zLF RX1 18 1 0 := ⟨RX1, TX1, 3, cl_1, by decide, (zt1 210 rfl rfl)⟩
theorem lf_X1_41 : zLF RX1 41 0 0 := ⟨RX0, TX0, 12, cl_0, by decide, (zt1 107 rfl rfl)⟩
theorem lf_X1_50 : zLF RX1 50 10 4 := ⟨RX10, TX10, 7, cl_10, by decide, (zt1 50 rfl rfl)⟩
theorem lf_X1_57 : zLF RX1 57 0 1 := ⟨RX0, TX0, 12, cl_0, by decide, (zt1 111 rfl rfl)⟩
theorem lf_X10_9 : zLF RX10 9 10 0 := ⟨RX10, TX10, 7, cl_10, by decide, (zt1 42 rfl rfl)⟩
theorem lr_X10_9 : zLR RX10 9 10 0 := ⟨RX10, TX10, 7, tyX10 0, cl_10, by decide, (zt1 42 rfl rfl), rfl, rfl, by decide +kernel, fun a => ⟨rfl, rfl⟩⟩
theorem lf_X10_15 : zLF RX10 15 10 6 := ⟨RX10, TX10, 7, cl_10, by decide, (zt1 54 rfl rfl)⟩
theorem lf_X10_19 : zLF RX10 19 10 1 := ⟨RX10, TX10, 7, cl_10, by decide, (zt1 44 rfl rfl)⟩
theorem lf_X10_22 : zLF RX10 22 10 2 := ⟨RX10, TX10, 7, cl_10, by decide, (zt1 45 rfl rfl)⟩
theorem lf_X10_25 : zLF RX10 25 10 3 := ⟨RX10, TX10, 7, cl_10, by decide, (zt1 46 rfl rfl)⟩
theorem lf_X10_28 : zLF RX10 28 10 4 := ⟨RX10, TX10, 7, cl_10, by decide, (zt1 47 rfl rfl)⟩
theorem lf_X10_31 : zLF RX10 31 10 5 := ⟨RX10, TX10, 7, cl_10, by decide, (zt1 52 rfl rfl)⟩
theorem lf_X11_9 : zLF RX11 9 11 3 := ⟨RX11, TX11, 8, cl_11, by decide, (zt1 231 rfl rfl)⟩
theorem lr_X11_9 : zLR RX11 9 11 3 := ⟨RX11, TX11, 8, tyX11 3, cl_11, by decide, (zt1 231 rfl rfl), rfl, rfl, by decide +kernel, fun a => ⟨rfl, rfl⟩⟩
theorem lf_X11_15 : zLF RX11 15 11 4 := ⟨RX11, TX11, 8, cl_11, by decide, (zt1 232 rfl rfl)⟩
theorem lr_X11_15 : zLR RX11 15 11 4 := ⟨RX11, TX11, 8, tyX11 4, cl_11, by decide, (zt1 232 rfl rfl), rfl, rfl, by decide +kernel, fun a => ⟨rfl, rfl⟩⟩
theorem lf_X11_18 : zLF RX11 18 11 5 := ⟨RX11, TX11, 8, cl_11, by decide, (zt1 233 rfl rfl)⟩
theorem lr_X11_18 : zLR RX11 18 11 5 := ⟨RX11, TX11, 8, tyX11 5, cl_11, by decide, (zt1 233 rfl rfl), rfl, rfl, by decide +kernel, fun a => ⟨rfl, rfl⟩⟩
theorem lf_X11_21 : zLF RX11 21 11 6 := ⟨RX11, TX11, 8, cl_11, by decide, (zt1 234 rfl rfl)⟩
theorem lr_X11_21 : zLR RX11 21 11 6 := ⟨RX11, TX11, 8, tyX11 6, cl_11, by decide, (zt1 234 rfl rfl), rfl, rfl, by decide +kernel, fun a => ⟨rfl, rfl⟩⟩
theorem lf_X11_24 : zLF RX11 24 11 7 := ⟨RX11, TX11, 8, cl_11, by decide, (zt1 235 rfl rfl)⟩
theorem lr_X11_24 : zLR RX11 24 11 7 := ⟨RX11, TX11, 8, tyX11 7, cl_11, by decide, (zt1 235 rfl rfl), rfl, rfl, by decide +kernel, fun a => ⟨rfl, rfl⟩⟩
theorem lf_X11_27 : zLF RX11 27 11 1 := ⟨RX11, TX11, 8, cl_11, by decide, (zt1 229 rfl rfl)⟩
theorem lf_X11_31 : zLF RX11 31 11 2 := ⟨RX11, TX11, 8, cl_11, by decide, (zt1 230 rfl rfl)⟩
theorem lf_X11_79 : zLF RX11 79 0 2 := ⟨RX0, TX0, 12, cl_0, by decide, (zt1 115 rfl rfl)⟩
theorem lf_X11_94 : zLF RX11 94 0 0 := ⟨RX0, TX0, 12, cl_0, by decide, (zt1 106 rfl rfl)⟩
theorem lf_X11_97 : zLF RX11 97 0 1 := ⟨RX0, TX0, 12, cl_0, by decide, (zt1 110 rfl rfl)⟩
theorem lf_X11_102 : zLF RX11 102 10 4 := ⟨RX10, TX10, 7, cl_10, by decide, (zt1 48 rfl rfl)⟩
theorem lf_X11_109 : zLF RX11 109 11 0 := ⟨RX11, TX11, 8, cl_11, by decide, (zt1 228 rfl rfl)⟩
theorem lf_X12_12 : zLF RX12 12 12 0 := ⟨RX12, TX12, 19, cl_12, by decide, (zt2 201 rfl rfl)⟩
theorem lr_X12_12 : zLR RX12 12 12 0 := ⟨RX12, TX12, 19, tyX12 0, cl_12, by decide, (zt2 201 rfl rfl), rfl, rfl, by decide +kernel, fun a => ⟨rfl, rfl⟩⟩
theorem lf_X12_19 : zLF RX12 19 12 1 := ⟨RX12, TX12, 19, cl_12, by decide, (zt2 202 rfl rfl)⟩
theorem lr_X12_19 : zLR RX12 19 12 1 := ⟨RX12, TX12, 19, tyX12 1, cl_12, by decide, (zt2 202 rfl rfl), rfl, rfl, by decide +kernel, fun a => ⟨rfl, rfl⟩⟩
theorem lf_X12_23 : zLF RX12 23 12 2 := ⟨RX12, TX12, 19, cl_12, by decide, (zt2 203 rfl rfl)⟩
theorem lr_X12_23 : zLR RX12 23 12 2 := ⟨RX12, TX12, 19, tyX12 2, cl_12, by decide, (zt2 203 rfl rfl), rfl, rfl, by decide +kernel, fun a => ⟨rfl, rfl⟩⟩
theorem lf_X12_29 : zLF RX12 29 12 3 := ⟨RX12, TX12, 19, cl_12, by decide, (zt2 204 rfl rfl)⟩
theorem lr_X12_29 : zLR RX12 29 12 3 := ⟨RX12, TX12, 19, tyX12 3, cl_12, by decide, (zt2 204 rfl rfl), rfl, rfl, by decide +kernel, fun a => ⟨rfl, rfl⟩⟩
theorem lf_X12_33 : zLF RX12 33 12 4 := ⟨RX12, TX12, 19, cl_12, by decide, (zt2 205 rfl rfl)⟩
theorem lr_X12_33 : zLR RX12 33 12 4 := ⟨RX12, TX12, 19, tyX12 4, cl_12, by decide, (zt2 205 rfl rfl), rfl, rfl, by decide +kernel, fun a => ⟨rfl, rfl⟩⟩
theorem lf_X12_39 : zLF RX12 39 12 5 := ⟨RX12, TX12, 19, cl_12, by decide, (zt2 206 rfl rfl)⟩
theorem lr_X12_39 : zLR RX12 39 12 5 := ⟨RX12, TX12, 19, tyX12 5, cl_12, by decide, (zt2 206 rfl rfl), rfl, rfl, by decide +kernel, fun a => ⟨rfl, rfl⟩⟩
theorem lf_X12_43 : zLF RX12 43 12 6 := ⟨RX12, TX12, 19, cl_12, by decide, (zt2 207 rfl rfl)⟩
theorem lr_X12_43 : zLR RX12 43 12 6 := ⟨RX12, TX12, 19, tyX12 6, cl_12, by decide, (zt2 207 rfl rfl), rfl, rfl, by decide +kernel, fun a => ⟨rfl, rfl⟩⟩
theorem lf_X12_49 : zLF RX12 49 12 7 := ⟨RX12, TX12, 19, cl_12, by decide, (zt2 208 rfl rfl)⟩
theorem lr_X12_49 : zLR RX12 49 12 7 := ⟨RX12, TX12, 19, tyX12 7, cl_12, by decide, (zt2 208 rfl rfl), rfl, rfl, by decide +kernel, fun a => ⟨rfl, rfl⟩⟩
theorem lf_X12_58 : zLF RX12 58 12 8 := ⟨RX12, TX12, 19, cl_12, by decide, (zt2 209 rfl rfl)⟩
theorem lr_X12_58 : zLR RX12 58 12 8 := ⟨RX12, TX12, 19, tyX12 8, cl_12, by decide, (zt2 209 rfl rfl), rfl, rfl, by decide +kernel, fun a => ⟨rfl, rfl⟩⟩
theorem lf_X12_67 : zLF RX12 67 12 9 := ⟨RX12, TX12, 19, cl_12, by decide, (zt2 210 rfl rfl)⟩
theorem lr_X12_67 : zLR RX12 67 12 9 := ⟨RX12, TX12, 19, tyX12 9, cl_12, by decide, (zt2 210 rfl rfl), rfl, rfl, by decide +kernel, fun a => ⟨rfl, rfl⟩⟩
theorem lf_X12_74 : zLF RX12 74 12 10 := ⟨RX12, TX12, 19, cl_12, by decide, (zt2 211 rfl rfl)⟩
theorem lr_X12_74 : zLR RX12 74 12 10 := ⟨RX12, TX12, 19, tyX12 10, cl_12, by decide, (zt2 211 rfl rfl), rfl, rfl, by decide +kernel, fun a => ⟨rfl, rfl⟩⟩
theorem lf_X12_83 : zLF RX12 83 12 11 := ⟨RX12, TX12, 19, cl_12, by decide, (zt2 212 rfl rfl)⟩
theorem lr_X12_83 : zLR RX12 83 12 11 := ⟨RX12, TX12, 19, tyX12 11, cl_12, by decide, (zt2 212 rfl rfl), rfl, rfl, by decide +kernel, fun a => ⟨rfl, rfl⟩⟩
theorem lf_X12_90 : zLF RX12 90 12 12 := ⟨RX12, TX12, 19, cl_12, by decide, (zt2 213 rfl rfl)⟩
theorem lr_X12_90 : zLR RX12 90 12 12 := ⟨RX12, TX12, 19, tyX12 12, cl_12, by decide, (zt2 213 rfl rfl), rfl, rfl, by decide +kernel, fun a => ⟨rfl, rfl⟩⟩
theorem lf_X12_97 : zLF RX12 97 12 13 := ⟨RX12, TX12, 19, cl_12, by decide, (zt2 214 rfl rfl)⟩
theorem lr_X12_97 : zLR RX12 97 12 13 := ⟨RX12, TX12, 19, tyX12 13, cl_12, by decide, (zt2 214 rfl rfl), rfl, rfl, by decide +kernel, fun a => ⟨rfl, rfl⟩⟩
theorem lf_X12_101 : zLF RX12 101 12 14 := ⟨RX12, TX12, 19, cl_12, by decide, (zt2 215 rfl rfl)⟩
theorem lr_X12_101 : zLR RX12 101 12 14 := ⟨RX12, TX12, 19, tyX12 14, cl_12, by decide, (zt2 215 rfl rfl), rfl, rfl, by decide +kernel, fun a => ⟨rfl, rfl⟩⟩
theorem lf_X12_107 : zLF RX12 107 10 1 := ⟨RX10, TX10, 7, cl_10, by decide, (zt1 43 rfl rfl)⟩
theorem lf_X12_130 : zLF RX12 130 10 5 := ⟨RX10, TX10, 7, cl_10, by decide, (zt1 53 rfl rfl)⟩
theorem lf_X12_136 : zLF RX12 136 0 2 := ⟨RX0, TX0, 12, cl_0, by decide, (zt1 116 rfl rfl)⟩
theorem lf_X12_143 : zLF RX12 143 7 0 := ⟨RX7, TX7, 6, cl_7, by decide, (zt2 120 rfl rfl)⟩
theorem lf_X12_157 : zLF RX12 157 11 0 := ⟨RX11, TX11, 8, cl_11, by decide, (zt1 227 rfl rfl)⟩
theorem lf_X12_160 : zLF RX12 160 12 15 := ⟨RX12, TX12, 19, cl_12, by decide, (zt2 216 rfl rfl)⟩
theorem lf_X12_167 : zLF RX12 167 1 0 := ⟨RX1, TX1, 3, cl_1, by decide, (zt1 211 rfl rfl)⟩
theorem lf_X12_170 : zLF RX12 170 10 6 := ⟨RX10, TX10, 7, cl_10, by decide, (zt1 55 rfl rfl)⟩
theorem lf_X12_179 : zLF RX12 179 0 0 := ⟨RX0, TX0, 12, cl_0, by decide, (zt1 108 rfl rfl)⟩
theorem lf_X12_182 : zLF RX12 182 0 1 := ⟨RX0, TX0, 12, cl_0, by decide, (zt1 112 rfl rfl)⟩
theorem lf_X12_185 : zLF RX12 185 8 5 := ⟨RX8, TX8, 6, cl_8, by decide, (zt2 168 rfl rfl)⟩
theorem lf_X12_205 : zLF RX12 205 0 3 := ⟨RX0, TX0, 12, cl_0, by decide, (zt1 121 rfl rfl)⟩
theorem lf_X12_214 : zLF RX12 214 8 4 := ⟨RX8, TX8, 6, cl_8, by decide, (zt2 165 rfl rfl)⟩
theorem lf_X12_218 : zLF RX12 218 0 5 := ⟨RX0, TX0, 12, cl_0, by decide, (zt1 126 rfl rfl)⟩
theorem lf_X12_221 : zLF RX12 221 0 6 := ⟨RX0, TX0, 12, cl_0, by decide, (zt1 131 rfl rfl)⟩
theorem lf_X12_251 : zLF RX12 251 0 9 := ⟨RX0, TX0, 12, cl_0, by decide, (zt1 141 rfl rfl)⟩
theorem lf_X12_254 : zLF RX12 254 8 1 := ⟨RX8, TX8, 6, cl_8, by decide, (zt2 153 rfl rfl)⟩
theorem lf_X12_257 : zLF RX12 257 8 2 := ⟨RX8, TX8, 6, cl_8, by decide, (zt2 157 rfl rfl)⟩
theorem lf_X12_260 : zLF RX12 260 8 3 := ⟨RX8, TX8, 6, cl_8, by decide, (zt2 161 rfl rfl)⟩
theorem lf_X12_266 : zLF RX12 266 0 8 := ⟨RX0, TX0, 12, cl_0, by decide, (zt1 138 rfl rfl)⟩
theorem lf_X12_280 : zLF RX12 280 5 0 := ⟨RX5, TX5, 4, cl_5, by decide, (zt1 190 rfl rfl)⟩
theorem lf_X12_287 : zLF RX12 287 8 0 := ⟨RX8, TX8, 6, cl_8, by decide, (zt2 148 rfl rfl)⟩
theorem lf_X12_324 : zLF RX12 324 2 3 := ⟨RX2, TX2, 6, cl_2, by decide, (zt2 95 rfl rfl)⟩
theorem lf_X12_344 : zLF RX12 344 7 1 := ⟨RX7, TX7, 6, cl_7, by decide, (zt2 122 rfl rfl)⟩
theorem lf_X12_353 : zLF RX12 353 12 16 := ⟨RX12, TX12, 19, cl_12, by decide, (zt2 217 rfl rfl)⟩
theorem lf_X12_356 : zLF RX12 356 12 17 := ⟨RX12, TX12, 19, cl_12, by decide, (zt2 218 rfl rfl)⟩
theorem lf_X12_387 : zLF RX12 387 12 18 := ⟨RX12, TX12, 19, cl_12, by decide, (zt2 219 rfl rfl)⟩
theorem lf_X13_9 : zLF RX13 9 13 3 := ⟨RX13, TX13, 48, cl_13, by decide, (zt6 208 rfl rfl)⟩
theorem lf_X13_13 : zLF RX13 13 13 9 := ⟨RX13, TX13, 48, cl_13, by decide, (zt6 214 rfl rfl)⟩
theorem lr_X13_13 : zLR RX13 13 13 9 := ⟨RX13, TX13, 48, tyX13 9, cl_13, by decide, (zt6 214 rfl rfl), rfl, rfl, by decide +kernel, fun a => ⟨rfl, rfl⟩⟩
theorem lf_X13_17 : zLF RX13 17 13 10 := ⟨RX13, TX13, 48, cl_13, by decide, (zt6 215 rfl rfl)⟩
theorem lr_X13_17 : zLR RX13 17 13 10 := ⟨RX13, TX13, 48, tyX13 10, cl_13, by decide, (zt6 215 rfl rfl), rfl, rfl, by decide +kernel, fun a => ⟨rfl, rfl⟩⟩
theorem lf_X13_20 : zLF RX13 20 13 11 := ⟨RX13, TX13, 48, cl_13, by decide, (zt6 216 rfl rfl)⟩
theorem lr_X13_20 : zLR RX13 20 13 11 := ⟨RX13, TX13, 48, tyX13 11, cl_13, by decide, (zt6 216 rfl rfl), rfl, rfl, by decide +kernel, fun a => ⟨rfl, rfl⟩⟩
theorem lf_X13_23 : zLF RX13 23 13 12 := ⟨RX13, TX13, 48, cl_13, by decide, (zt6 217 rfl rfl)⟩
theorem lr_X13_23 : zLR RX13 23 13 12 := ⟨RX13, TX13, 48, tyX13 12, cl_13, by decide, (zt6 217 rfl rfl), rfl, rfl, by decide +kernel, fun a => ⟨rfl, rfl⟩⟩
theorem lf_X13_26 : zLF RX13 26 13 13 := ⟨RX13, TX13, 48, cl_13, by decide, (zt6 218 rfl rfl)⟩
theorem lr_X13_26 : zLR RX13 26 13 13 := ⟨RX13, TX13, 48, tyX13 13, cl_13, by decide, (zt6 218 rfl rfl), rfl, rfl, by decide +kernel, fun a => ⟨rfl, rfl⟩⟩
theorem lf_X13_29 : zLF RX13 29 13 14 := ⟨RX13, TX13, 48, cl_13, by decide, (zt6 219 rfl rfl)⟩
theorem lr_X13_29 : zLR RX13 29 13 14 := ⟨RX13, TX13, 48, tyX13 14, cl_13, by decide, (zt6 219 rfl rfl), rfl, rfl, by decide +kernel, fun a => ⟨rfl, rfl⟩⟩
theorem lf_X13_32 : zLF RX13 32 13 15 := ⟨RX13, TX13, 48, cl_13, by decide, (zt6 220 rfl rfl)⟩
theorem lr_X13_32 : zLR RX13 32 13 15 := ⟨RX13, TX13, 48, tyX13 15, cl_13, by decide, (zt6 220 rfl rfl), rfl, rfl, by decide +kernel, fun a => ⟨rfl, rfl⟩⟩
theorem lf_X13_37 : zLF RX13 37 13 16 := ⟨RX13, TX13, 48, cl_13, by decide, (zt6 221 rfl rfl)⟩
theorem lr_X13_37 : zLR RX13 37 13 16 := ⟨RX13, TX13, 48, tyX13 16, cl_13, by decide, (zt6 221 rfl rfl), rfl, rfl, by decide +kernel, fun a => ⟨rfl, rfl⟩⟩
theorem lf_X13_40 : zLF RX13 40 13 17 := ⟨RX13, TX13, 48, cl_13, by decide, (zt6 222 rfl rfl)⟩
theorem lr_X13_40 : zLR RX13 40 13 17 := ⟨RX13, TX13, 48, tyX13 17, cl_13, by decide, (zt6 222 rfl rfl), rfl, rfl, by decide +kernel, fun a => ⟨rfl, rfl⟩⟩
theorem lf_X13_43 : zLF RX13 43 13 18 := ⟨RX13, TX13, 48, cl_13, by decide, (zt6 223 rfl rfl)⟩
theorem lr_X13_43 : zLR RX13 43 13 18 := ⟨RX13, TX13, 48, tyX13 18, cl_13, by decide, (zt6 223 rfl rfl), rfl, rfl, by decide +kernel, fun a => ⟨rfl, rfl⟩⟩
theorem lf_X13_46 : zLF RX13 46 13 19 := ⟨RX13, TX13, 48, cl_13, by decide, (zt6 224 rfl rfl)⟩
theorem lr_X13_46 : zLR RX13 46 13 19 := ⟨RX13, TX13, 48, tyX13 19, cl_13, by decide, (zt6 224 rfl rfl), rfl, rfl, by decide +kernel, fun a => ⟨rfl, rfl⟩⟩
theorem lf_X13_49 : zLF RX13 49 13 22 := ⟨RX13, TX13, 48, cl_13, by decide, (zt6 227 rfl rfl)⟩
theorem lr_X13_49 : zLR RX13 49 13 22 := ⟨RX13, TX13, 48, tyX13 22, cl_13, by decide, (zt6 227 rfl rfl), rfl, rfl, by decide +kernel, fun a => ⟨rfl, rfl⟩⟩
theorem lf_X13_52 : zLF RX13 52 13 23 := ⟨RX13, TX13, 48, cl_13, by decide, (zt6 228 rfl rfl)⟩
theorem lr_X13_52 : zLR RX13 52 13 23 := ⟨RX13, TX13, 48, tyX13 23, cl_13, by decide, (zt6 228 rfl rfl), rfl, rfl, by decide +kernel, fun a => ⟨rfl, rfl⟩⟩
theorem lf_X13_55 : zLF RX13 55 13 24 := ⟨RX13, TX13, 48, cl_13, by decide, (zt6 229 rfl rfl)⟩
theorem lr_X13_55 : zLR RX13 55 13 24 := ⟨RX13, TX13, 48, tyX13 24, cl_13, by decide, (zt6 229 rfl rfl), rfl, rfl, by decide +kernel, fun a => ⟨rfl, rfl⟩⟩
theorem lf_X13_58 : zLF RX13 58 13 25 := ⟨RX13, TX13, 48, cl_13, by decide, (zt6 230 rfl rfl)⟩
theorem lr_X13_58 : zLR RX13 58 13 25 := ⟨RX13, TX13, 48, tyX13 25, cl_13, by decide, (zt6 230 rfl rfl), rfl, rfl, by decide +kernel, fun a => ⟨rfl, rfl⟩⟩
theorem lf_X13_61 : zLF RX13 61 13 26 := ⟨RX13, TX13, 48, cl_13, by decide, (zt6 231 rfl rfl)⟩
theorem lr_X13_61 : zLR RX13 61 13 26 := ⟨RX13, TX13, 48, tyX13 26, cl_13, by decide, (zt6 231 rfl rfl), rfl, rfl, by decide +kernel, fun a => ⟨rfl, rfl⟩⟩
theorem lf_X13_64 : zLF RX13 64 13 27 := ⟨RX13, TX13, 48, cl_13, by decide, (zt6 232 rfl rfl)⟩
theorem lr_X13_64 : zLR RX13 64 13 27 := ⟨RX13, TX13, 48, tyX13 27, cl_13, by decide, (zt6 232 rfl rfl), rfl, rfl, by decide +kernel, fun a => ⟨rfl, rfl⟩⟩
theorem lf_X13_67 : zLF RX13 67 13 28 := ⟨RX13, TX13, 48, cl_13, by decide, (zt6 233 rfl rfl)⟩
theorem lr_X13_67 : zLR RX13 67 13 28 := ⟨RX13, TX13, 48, tyX13 28, cl_13, by decide, (zt6 233 rfl rfl), rfl, rfl, by decide +kernel, fun a => ⟨rfl, rfl⟩⟩
theorem lf_X13_70 : zLF RX13 70 13 30 := ⟨RX13, TX13, 48, cl_13, by decide, (zt6 235 rfl rfl)⟩
theorem lr_X13_70 : zLR RX13 70 13 30 := ⟨RX13, TX13, 48, tyX13 30, cl_13, by decide, (zt6 235 rfl rfl), rfl, rfl, by decide +kernel, fun a => ⟨rfl, rfl⟩⟩
theorem lf_X13_73 : zLF RX13 73 13 31 := ⟨RX13, TX13, 48, cl_13, by decide, (zt6 236 rfl rfl)⟩
theorem lr_X13_73 : zLR RX13 73 13 31 := ⟨RX13, TX13, 48, tyX13 31, cl_13, by decide, (zt6 236 rfl rfl), rfl, rfl, by decide +kernel, fun a => ⟨rfl, rfl⟩⟩
theorem lf_X13_76 : zLF RX13 76 13 32 := ⟨RX13, TX13, 48, cl_13, by decide, (zt6 237 rfl rfl)⟩
theorem lr_X13_76 : zLR RX13 76 13 32 := ⟨RX13, TX13, 48, tyX13 32, cl_13, by decide, (zt6 237 rfl rfl), rfl, rfl, by decide +kernel, fun a => ⟨rfl, rfl⟩⟩
theorem lf_X13_79 : zLF RX13 79 13 33 := ⟨RX13, TX13, 48, cl_13, by decide, (zt6 238 rfl rfl)⟩
theorem lr_X13_79 : zLR RX13 79 13 33 := ⟨RX13, TX13, 48, tyX13 33, cl_13, by decide, (zt6 238 rfl rfl), rfl, rfl, by decide +kernel, fun a => ⟨rfl, rfl⟩⟩
theorem lf_X13_82 : zLF RX13 82 13 34 := ⟨RX13, TX13, 48, cl_13, by decide, (zt6 239 rfl rfl)⟩
theorem lr_X13_82 : zLR RX13 82 13 34 := ⟨RX13, TX13, 48, tyX13 34, cl_13, by decide, (zt6 239 rfl rfl), rfl, rfl, by decide +kernel, fun a => ⟨rfl, rfl⟩⟩
theorem lf_X13_85 : zLF RX13 85 13 40 := ⟨RX13, TX13, 48, cl_13, by decide, (zt7 5 rfl rfl)⟩
theorem lr_X13_85 : zLR RX13 85 13 40 := ⟨RX13, TX13, 48, tyX13 40, cl_13, by decide, (zt7 5 rfl rfl), rfl, rfl, by decide +kernel, fun a => ⟨rfl, rfl⟩⟩
theorem lf_X13_88 : zLF RX13 88 13 41 := ⟨RX13, TX13, 48, cl_13, by decide, (zt7 6 rfl rfl)⟩
theorem lr_X13_88 : zLR RX13 88 13 41 := ⟨RX13, TX13, 48, tyX13 41, cl_13, by decide, (zt7 6 rfl rfl), rfl, rfl, by decide +kernel, fun a => ⟨rfl, rfl⟩⟩
theorem lf_X13_91 : zLF RX13 91 13 42 := ⟨RX13, TX13, 48, cl_13, by decide, (zt7 7 rfl rfl)⟩
theorem lr_X13_91 : zLR RX13 91 13 42 := ⟨RX13, TX13, 48, tyX13 42, cl_13, by decide, (zt7 7 rfl rfl), rfl, rfl, by decide +kernel, fun a => ⟨rfl, rfl⟩⟩
theorem lf_X13_95 : zLF RX13 95 13 45 := ⟨RX13, TX13, 48, cl_13, by decide, (zt7 10 rfl rfl)⟩
theorem lr_X13_95 : zLR RX13 95 13 45 := ⟨RX13, TX13, 48, tyX13 45, cl_13, by decide, (zt7 10 rfl rfl), rfl, rfl, by decide +kernel, fun a => ⟨rfl, rfl⟩⟩
theorem lf_X13_98 : zLF RX13 98 13 46 := ⟨RX13, TX13, 48, cl_13, by decide, (zt7 11 rfl rfl)⟩
theorem lr_X13_98 : zLR RX13 98 13 46 := ⟨RX13, TX13, 48, tyX13 46, cl_13, by decide, (zt7 11 rfl rfl), rfl, rfl, by decide +kernel, fun a => ⟨rfl, rfl⟩⟩
theorem lf_X13_107 : zLF RX13 107 13 0 := ⟨RX13, TX13, 48, cl_13, by decide, (zt6 205 rfl rfl)⟩
theorem lf_X13_110 : zLF RX13 110 13 1 := ⟨RX13, TX13, 48, cl_13, by decide, (zt6 206 rfl rfl)⟩
theorem lf_X13_113 : zLF RX13 113 13 2 := ⟨RX13, TX13, 48, cl_13, by decide, (zt6 207 rfl rfl)⟩
theorem lf_X13_116 : zLF RX13 116 13 4 := ⟨RX13, TX13, 48, cl_13, by decide, (zt6 209 rfl rfl)⟩
theorem lf_X13_123 : zLF RX13 123 13 5 := ⟨RX13, TX13, 48, cl_13, by decide, (zt6 210 rfl rfl)⟩
theorem lf_X13_126 : zLF RX13 126 13 6 := ⟨RX13, TX13, 48, cl_13, by decide, (zt6 211 rfl rfl)⟩
theorem lf_X13_163 : zLF RX13 163 13 7 := ⟨RX13, TX13, 48, cl_13, by decide, (zt6 212 rfl rfl)⟩
theorem lf_X13_166 : zLF RX13 166 13 8 := ⟨RX13, TX13, 48, cl_13, by decide, (zt6 213 rfl rfl)⟩
theorem lf_X13_212 : zLF RX13 212 13 20 := ⟨RX13, TX13, 48, cl_13, by decide, (zt6 225 rfl rfl)⟩
theorem lf_X13_215 : zLF RX13 215 13 35 := ⟨RX13, TX13, 48, cl_13, by decide, (zt7 0 rfl rfl)⟩
theorem lf_X13_218 : zLF RX13 218 13 36 := ⟨RX13, TX13, 48, cl_13, by decide, (zt7 1 rfl rfl)⟩
theorem lf_X13_221 : zLF RX13 221 13 37 := ⟨RX13, TX13, 48, cl_13, by decide, (zt7 2 rfl rfl)⟩
theorem lf_X13_224 : zLF RX13 224 13 38 := ⟨RX13, TX13, 48, cl_13, by decide, (zt7 3 rfl rfl)⟩
theorem lf_X13_227 : zLF RX13 227 13 21 := ⟨RX13, TX13, 48, cl_13, by decide, (zt6 226 rfl rfl)⟩
theorem lf_X13_272 : zLF RX13 272 13 29 := ⟨RX13, TX13, 48, cl_13, by decide, (zt6 234 rfl rfl)⟩
theorem lf_X13_366 : zLF RX13 366 13 43 := ⟨RX13, TX13, 48, cl_13, by decide, (zt7 8 rfl rfl)⟩
theorem lf_X13_376 : zLF RX13 376 13 44 := ⟨RX13, TX13, 48, cl_13, by decide, (zt7 9 rfl rfl)⟩
theorem lf_X13_446 : zLF RX13 446 13 47 := ⟨RX13, TX13, 48, cl_13, by decide, (zt7 12 rfl rfl)⟩
theorem lf_X13_463 : zLF RX13 463 13 39 := ⟨RX13, TX13, 48, cl_13, by decide, (zt7 4 rfl rfl)⟩
theorem lf_X2_11 : zLF RX2 11 2 3 := ⟨RX2, TX2, 6, cl_2, by decide, (zt2 94 rfl rfl)⟩
theorem lr_X2_11 : zLR RX2 11 2 3 := ⟨RX2, TX2, 6, tyX2 3, cl_2, by decide, (zt2 94 rfl rfl), rfl, rfl, by decide +kernel, fun a => ⟨rfl, rfl⟩⟩
theorem lf_X2_15 : zLF RX2 15 2 4 := ⟨RX2, TX2, 6, cl_2, by decide, (zt2 96 rfl rfl)⟩
theorem lr_X2_15 : zLR RX2 15 2 4 := ⟨RX2, TX2, 6, tyX2 4, cl_2, by decide, (zt2 96 rfl rfl), rfl, rfl, by decide +kernel, fun a => ⟨rfl, rfl⟩⟩
theorem lf_X2_18 : zLF RX2 18 2 5 := ⟨RX2, TX2, 6, cl_2, by decide, (zt2 97 rfl rfl)⟩
theorem lr_X2_18 : zLR RX2 18 2 5 := ⟨RX2, TX2, 6, tyX2 5, cl_2, by decide, (zt2 97 rfl rfl), rfl, rfl, by decide +kernel, fun a => ⟨rfl, rfl⟩⟩
theorem lf_X2_21 : zLF RX2 21 2 0 := ⟨RX2, TX2, 6, cl_2, by decide, (zt2 91 rfl rfl)⟩
theorem lr_X2_21 : zLR RX2 21 2 0 := ⟨RX2, TX2, 6, tyX2 0, cl_2, by decide, (zt2 91 rfl rfl), rfl, rfl, by decide +kernel, fun a => ⟨rfl, rfl⟩⟩
theorem lf_X2_25 : zLF RX2 25 2 1 := ⟨RX2, TX2, 6, cl_2, by decide, (zt2 92 rfl rfl)⟩
theorem lr_X2_25 : zLR RX2 25 2 1 := ⟨RX2, TX2, 6, tyX2 1, cl_2, by decide, (zt2 92 rfl rfl), rfl, rfl, by decide +kernel, fun a => ⟨rfl, rfl⟩⟩
theorem lf_X2_29 : zLF RX2 29 2 2 := ⟨RX2, TX2, 6, cl_2, by decide, (zt2 93 rfl rfl)⟩
theorem lr_X2_29 : zLR RX2 29 2 2 := ⟨RX2, TX2, 6, tyX2 2, cl_2, by decide, (zt2 93 rfl rfl), rfl, rfl, by decide +kernel, fun a => ⟨rfl, rfl⟩⟩
theorem lf_X2_33 : zLF RX2 33 0 2 := ⟨RX0, TX0, 12, cl_0, by decide, (zt1 113 rfl rfl)⟩
theorem lf_X2_54 : zLF RX2 54 8 1 := ⟨RX8, TX8, 6, cl_8, by decide, (zt2 151 rfl rfl)⟩
theorem lf_X3_11 : zLF RX3 11 3 0 := ⟨RX3, TX3, 2, cl_3, by decide, (zt2 38 rfl rfl)⟩
theorem lr_X3_11 : zLR RX3 11 3 0 := ⟨RX3, TX3, 2, tyX3 0, cl_3, by decide, (zt2 38 rfl rfl), rfl, rfl, by decide +kernel, fun a => ⟨rfl, rfl⟩⟩
theorem lf_X3_15 : zLF RX3 15 3 1 := ⟨RX3, TX3, 2, cl_3, by decide, (zt2 39 rfl rfl)⟩
theorem lf_X4_12 : zLF RX4 12 4 1 := ⟨RX4, TX4, 3, cl_4, by decide, (zt2 76 rfl rfl)⟩
theorem lr_X4_12 : zLR RX4 12 4 1 := ⟨RX4, TX4, 3, tyX4 1, cl_4, by decide, (zt2 76 rfl rfl), rfl, rfl, by decide +kernel, fun a => ⟨rfl, rfl⟩⟩
theorem lf_X4_18 : zLF RX4 18 4 2 := ⟨RX4, TX4, 3, cl_4, by decide, (zt2 77 rfl rfl)⟩
theorem lr_X4_18 : zLR RX4 18 4 2 := ⟨RX4, TX4, 3, tyX4 2, cl_4, by decide, (zt2 77 rfl rfl), rfl, rfl, by decide +kernel, fun a => ⟨rfl, rfl⟩⟩
theorem lf_X4_22 : zLF RX4 22 4 0 := ⟨RX4, TX4, 3, cl_4, by decide, (zt2 75 rfl rfl)⟩
theorem lr_X4_22 : zLR RX4 22 4 0 := ⟨RX4, TX4, 3, tyX4 0, cl_4, by decide, (zt2 75 rfl rfl), rfl, rfl, by decide +kernel, fun a => ⟨rfl, rfl⟩⟩
theorem lf_X4_26 : zLF RX4 26 0 6 := ⟨RX0, TX0, 12, cl_0, by decide, (zt1 128 rfl rfl)⟩
theorem lf_X4_37 : zLF RX4 37 0 7 := ⟨RX0, TX0, 12, cl_0, by decide, (zt1 133 rfl rfl)⟩
theorem lf_X4_66 : zLF RX4 66 0 11 := ⟨RX0, TX0, 12, cl_0, by decide, (zt1 146 rfl rfl)⟩
theorem lf_X4_69 : zLF RX4 69 8 3 := ⟨RX8, TX8, 6, cl_8, by decide, (zt2 159 rfl rfl)⟩
theorem lf_X5_9 : zLF RX5 9 5 0 := ⟨RX5, TX5, 4, cl_5, by decide, (zt1 189 rfl rfl)⟩
theorem lr_X5_9 : zLR RX5 9 5 0 := ⟨RX5, TX5, 4, tyX5 0, cl_5, by decide, (zt1 189 rfl rfl), rfl, rfl, by decide +kernel, fun a => ⟨rfl, rfl⟩⟩
theorem lf_X5_15 : zLF RX5 15 5 1 := ⟨RX5, TX5, 4, cl_5, by decide, (zt1 192 rfl rfl)⟩
theorem lr_X5_15 : zLR RX5 15 5 1 := ⟨RX5, TX5, 4, tyX5 1, cl_5, by decide, (zt1 192 rfl rfl), rfl, rfl, by decide +kernel, fun a => ⟨rfl, rfl⟩⟩
theorem lf_X5_18 : zLF RX5 18 5 2 := ⟨RX5, TX5, 4, cl_5, by decide, (zt1 193 rfl rfl)⟩
theorem lr_X5_18 : zLR RX5 18 5 2 := ⟨RX5, TX5, 4, tyX5 2, cl_5, by decide, (zt1 193 rfl rfl), rfl, rfl, by decide +kernel, fun a => ⟨rfl, rfl⟩⟩
theorem lf_X5_33 : zLF RX5 33 5 3 := ⟨RX5, TX5, 4, cl_5, by decide, (zt1 194 rfl rfl)⟩
theorem lf_X5_50 : zLF RX5 50 10 4 := ⟨RX10, TX10, 7, cl_10, by decide, (zt1 49 rfl rfl)⟩
theorem lf_X6_12 : zLF RX6 12 6 3 := ⟨RX6, TX6, 7, cl_6, by decide, (zt2 48 rfl rfl)⟩
theorem lr_X6_12 : zLR RX6 12 6 3 := ⟨RX6, TX6, 7, tyX6 3, cl_6, by decide, (zt2 48 rfl rfl), rfl, rfl, by decide +kernel, fun a => ⟨rfl, rfl⟩⟩
theorem lf_X6_18 : zLF RX6 18 6 4 := ⟨RX6, TX6, 7, cl_6, by decide, (zt2 49 rfl rfl)⟩
theorem lr_X6_18 : zLR RX6 18 6 4 := ⟨RX6, TX6, 7, tyX6 4, cl_6, by decide, (zt2 49 rfl rfl), rfl, rfl, by decide +kernel, fun a => ⟨rfl, rfl⟩⟩
theorem lf_X6_22 : zLF RX6 22 6 5 := ⟨RX6, TX6, 7, cl_6, by decide, (zt2 50 rfl rfl)⟩
theorem lr_X6_22 : zLR RX6 22 6 5 := ⟨RX6, TX6, 7, tyX6 5, cl_6, by decide, (zt2 50 rfl rfl), rfl, rfl, by decide +kernel, fun a => ⟨rfl, rfl⟩⟩
theorem lf_X6_25 : zLF RX6 25 6 6 := ⟨RX6, TX6, 7, cl_6, by decide, (zt2 51 rfl rfl)⟩
theorem lr_X6_25 : zLR RX6 25 6 6 := ⟨RX6, TX6, 7, tyX6 6, cl_6, by decide, (zt2 51 rfl rfl), rfl, rfl, by decide +kernel, fun a => ⟨rfl, rfl⟩⟩
theorem lf_X6_28 : zLF RX6 28 6 0 := ⟨RX6, TX6, 7, cl_6, by decide, (zt2 45 rfl rfl)⟩
theorem lr_X6_28 : zLR RX6 28 6 0 := ⟨RX6, TX6, 7, tyX6 0, cl_6, by decide, (zt2 45 rfl rfl), rfl, rfl, by decide +kernel, fun a => ⟨rfl, rfl⟩⟩
theorem lf_X6_32 : zLF RX6 32 6 1 := ⟨RX6, TX6, 7, cl_6, by decide, (zt2 46 rfl rfl)⟩
theorem lr_X6_32 : zLR RX6 32 6 1 := ⟨RX6, TX6, 7, tyX6 1, cl_6, by decide, (zt2 46 rfl rfl), rfl, rfl, by decide +kernel, fun a => ⟨rfl, rfl⟩⟩
theorem lf_X6_36 : zLF RX6 36 6 2 := ⟨RX6, TX6, 7, cl_6, by decide, (zt2 47 rfl rfl)⟩
theorem lr_X6_36 : zLR RX6 36 6 2 := ⟨RX6, TX6, 7, tyX6 2, cl_6, by decide, (zt2 47 rfl rfl), rfl, rfl, by decide +kernel, fun a => ⟨rfl, rfl⟩⟩
theorem lf_X6_40 : zLF RX6 40 8 5 := ⟨RX8, TX8, 6, cl_8, by decide, (zt2 166 rfl rfl)⟩
theorem lf_X6_57 : zLF RX6 57 8 4 := ⟨RX8, TX8, 6, cl_8, by decide, (zt2 164 rfl rfl)⟩
theorem lf_X6_67 : zLF RX6 67 0 6 := ⟨RX0, TX0, 12, cl_0, by decide, (zt1 129 rfl rfl)⟩
theorem lf_X6_87 : zLF RX6 87 8 2 := ⟨RX8, TX8, 6, cl_8, by decide, (zt2 155 rfl rfl)⟩
theorem lf_X6_90 : zLF RX6 90 8 1 := ⟨RX8, TX8, 6, cl_8, by decide, (zt2 152 rfl rfl)⟩
theorem lf_X6_93 : zLF RX6 93 0 8 := ⟨RX0, TX0, 12, cl_0, by decide, (zt1 137 rfl rfl)⟩
theorem lf_X6_96 : zLF RX6 96 8 3 := ⟨RX8, TX8, 6, cl_8, by decide, (zt2 160 rfl rfl)⟩
theorem lf_X6_99 : zLF RX6 99 0 2 := ⟨RX0, TX0, 12, cl_0, by decide, (zt1 118 rfl rfl)⟩
theorem lf_X6_117 : zLF RX6 117 0 3 := ⟨RX0, TX0, 12, cl_0, by decide, (zt1 120 rfl rfl)⟩
theorem lf_X6_175 : zLF RX6 175 0 11 := ⟨RX0, TX0, 12, cl_0, by decide, (zt1 147 rfl rfl)⟩
theorem lf_X6_181 : zLF RX6 181 0 7 := ⟨RX0, TX0, 12, cl_0, by decide, (zt1 135 rfl rfl)⟩
theorem lf_X6_187 : zLF RX6 187 0 9 := ⟨RX0, TX0, 12, cl_0, by decide, (zt1 142 rfl rfl)⟩
theorem lf_X6_190 : zLF RX6 190 5 0 := ⟨RX5, TX5, 4, cl_5, by decide, (zt1 191 rfl rfl)⟩
theorem lf_X7_11 : zLF RX7 11 7 2 := ⟨RX7, TX7, 6, cl_7, by decide, (zt2 123 rfl rfl)⟩
theorem lr_X7_11 : zLR RX7 11 7 2 := ⟨RX7, TX7, 6, tyX7 2, cl_7, by decide, (zt2 123 rfl rfl), rfl, rfl, by decide +kernel, fun a => ⟨rfl, rfl⟩⟩
theorem lf_X7_17 : zLF RX7 17 7 3 := ⟨RX7, TX7, 6, cl_7, by decide, (zt2 124 rfl rfl)⟩
theorem lr_X7_17 : zLR RX7 17 7 3 := ⟨RX7, TX7, 6, tyX7 3, cl_7, by decide, (zt2 124 rfl rfl), rfl, rfl, by decide +kernel, fun a => ⟨rfl, rfl⟩⟩
theorem lf_X7_20 : zLF RX7 20 7 4 := ⟨RX7, TX7, 6, cl_7, by decide, (zt2 125 rfl rfl)⟩
theorem lr_X7_20 : zLR RX7 20 7 4 := ⟨RX7, TX7, 6, tyX7 4, cl_7, by decide, (zt2 125 rfl rfl), rfl, rfl, by decide +kernel, fun a => ⟨rfl, rfl⟩⟩
theorem lf_X7_23 : zLF RX7 23 7 5 := ⟨RX7, TX7, 6, cl_7, by decide, (zt2 126 rfl rfl)⟩
theorem lr_X7_23 : zLR RX7 23 7 5 := ⟨RX7, TX7, 6, tyX7 5, cl_7, by decide, (zt2 126 rfl rfl), rfl, rfl, by decide +kernel, fun a => ⟨rfl, rfl⟩⟩
theorem lf_X7_27 : zLF RX7 27 7 0 := ⟨RX7, TX7, 6, cl_7, by decide, (zt2 119 rfl rfl)⟩
theorem lf_X7_31 : zLF RX7 31 7 1 := ⟨RX7, TX7, 6, cl_7, by decide, (zt2 121 rfl rfl)⟩
theorem lf_X8_9 : zLF RX8 9 8 0 := ⟨RX8, TX8, 6, cl_8, by decide, (zt2 146 rfl rfl)⟩
theorem lr_X8_9 : zLR RX8 9 8 0 := ⟨RX8, TX8, 6, tyX8 0, cl_8, by decide, (zt2 146 rfl rfl), rfl, rfl, by decide +kernel, fun a => ⟨rfl, rfl⟩⟩
theorem lf_X8_15 : zLF RX8 15 8 1 := ⟨RX8, TX8, 6, cl_8, by decide, (zt2 149 rfl rfl)⟩
theorem lr_X8_15 : zLR RX8 15 8 1 := ⟨RX8, TX8, 6, tyX8 1, cl_8, by decide, (zt2 149 rfl rfl), rfl, rfl, by decide +kernel, fun a => ⟨rfl, rfl⟩⟩
theorem lf_X8_18 : zLF RX8 18 8 2 := ⟨RX8, TX8, 6, cl_8, by decide, (zt2 154 rfl rfl)⟩
theorem lr_X8_18 : zLR RX8 18 8 2 := ⟨RX8, TX8, 6, tyX8 2, cl_8, by decide, (zt2 154 rfl rfl), rfl, rfl, by decide +kernel, fun a => ⟨rfl, rfl⟩⟩
theorem lf_X8_21 : zLF RX8 21 8 3 := ⟨RX8, TX8, 6, cl_8, by decide, (zt2 158 rfl rfl)⟩
theorem lr_X8_21 : zLR RX8 21 8 3 := ⟨RX8, TX8, 6, tyX8 3, cl_8, by decide, (zt2 158 rfl rfl), rfl, rfl, by decide +kernel, fun a => ⟨rfl, rfl⟩⟩
theorem lf_X8_24 : zLF RX8 24 8 4 := ⟨RX8, TX8, 6, cl_8, by decide, (zt2 163 rfl rfl)⟩
theorem lr_X8_24 : zLR RX8 24 8 4 := ⟨RX8, TX8, 6, tyX8 4, cl_8, by decide, (zt2 163 rfl rfl), rfl, rfl, by decide +kernel, fun a => ⟨rfl, rfl⟩⟩
theorem lf_X8_33 : zLF RX8 33 0 10 := ⟨RX0, TX0, 12, cl_0, by decide, (zt1 144 rfl rfl)⟩
theorem lf_X8_42 : zLF RX8 42 0 4 := ⟨RX0, TX0, 12, cl_0, by decide, (zt1 123 rfl rfl)⟩
theorem lf_X8_43 : zLF RX8 43 8 5 := ⟨RX8, TX8, 6, cl_8, by decide, (zt2 167 rfl rfl)⟩
theorem lf_X9_9 : zLF RX9 9 9 1 := ⟨RX9, TX9, 2, cl_9, by decide, (zt2 20 rfl rfl)⟩
theorem lr_X9_9 : zLR RX9 9 9 1 := ⟨RX9, TX9, 2, tyX9 1, cl_9, by decide, (zt2 20 rfl rfl), rfl, rfl, by decide +kernel, fun a => ⟨rfl, rfl⟩⟩
theorem lf_X9_15 : zLF RX9 15 9 0 := ⟨RX9, TX9, 2, cl_9, by decide, (zt2 19 rfl rfl)⟩
theorem lr_X9_15 : zLR RX9 15 9 0 := ⟨RX9, TX9, 2, tyX9 0, cl_9, by decide, (zt2 19 rfl rfl), rfl, rfl, by decide +kernel, fun a => ⟨rfl, rfl⟩⟩
theorem lf_X9_19 : zLF RX9 19 8 1 := ⟨RX8, TX8, 6, cl_8, by decide, (zt2 150 rfl rfl)⟩
theorem lf_X9_24 : zLF RX9 24 0 9 := ⟨RX0, TX0, 12, cl_0, by decide, (zt1 140 rfl rfl)⟩
theorem lf_X9_37 : zLF RX9 37 0 6 := ⟨RX0, TX0, 12, cl_0, by decide, (zt1 130 rfl rfl)⟩
theorem lf_X9_40 : zLF RX9 40 0 7 := ⟨RX0, TX0, 12, cl_0, by decide, (zt1 134 rfl rfl)⟩
theorem lf_X9_43 : zLF RX9 43 0 2 := ⟨RX0, TX0, 12, cl_0, by decide, (zt1 117 rfl rfl)⟩
theorem lf_X9_61 : zLF RX9 61 0 5 := ⟨RX0, TX0, 12, cl_0, by decide, (zt1 125 rfl rfl)⟩
theorem lf_X9_64 : zLF RX9 64 8 2 := ⟨RX8, TX8, 6, cl_8, by decide, (zt2 156 rfl rfl)⟩
theorem lf_X9_67 : zLF RX9 67 8 3 := ⟨RX8, TX8, 6, cl_8, by decide, (zt2 162 rfl rfl)⟩
theorem lf_X9_70 : zLF RX9 70 8 0 := ⟨RX8, TX8, 6, cl_8, by decide, (zt2 147 rfl rfl)⟩
theorem lf_X9_73 : zLF RX9 73 0 11 := ⟨RX0, TX0, 12, cl_0, by decide, (zt1 148 rfl rfl)⟩
theorem lv_L_7 : zLV RL 7 mX12_board 12 1 := ⟨⟨rfl, (zt3 194 rfl rfl), (zt1 1 rfl rfl), (zt3 197 rfl rfl), by decide +kernel, by decide⟩, ⟨TX12, 19, rfl⟩, (zt3 195 rfl rfl), (zt3 196 rfl rfl)⟩
theorem lv_L_15 : zLV RL 15 mX12_law 12 1 := ⟨⟨rfl, (zt4 156 rfl rfl), (zt1 1 rfl rfl), (zt4 159 rfl rfl), by decide +kernel, by decide⟩, ⟨TX12, 19, rfl⟩, (zt4 157 rfl rfl), (zt4 158 rfl rfl)⟩
theorem lv_L_18 : zLV RL 18 mX12_work 12 1 := ⟨⟨rfl, (zt4 224 rfl rfl), (zt1 1 rfl rfl), (zt4 227 rfl rfl), by decide +kernel, by decide⟩, ⟨TX12, 19, rfl⟩, (zt4 225 rfl rfl), (zt4 226 rfl rfl)⟩
theorem lv_L_21 : zLV RL 21 mX12_book 12 1 := ⟨⟨rfl, (zt5 60 rfl rfl), (zt1 1 rfl rfl), (zt5 63 rfl rfl), by decide +kernel, by decide⟩, ⟨TX12, 19, rfl⟩, (zt5 61 rfl rfl), (zt5 62 rfl rfl)⟩
theorem lv_L_24 : zLV RL 24 mX12_told 12 1 := ⟨⟨rfl, (zt5 89 rfl rfl), (zt1 1 rfl rfl), (zt5 92 rfl rfl), by decide +kernel, by decide⟩, ⟨TX12, 19, rfl⟩, (zt5 90 rfl rfl), (zt5 91 rfl rfl)⟩
theorem lv_L_27 : zLV RL 27 mX12_net 12 2 := ⟨⟨rfl, (zt5 125 rfl rfl), (zt1 1 rfl rfl), (zt5 128 rfl rfl), by decide +kernel, by decide⟩, ⟨TX12, 19, rfl⟩, (zt5 126 rfl rfl), (zt5 127 rfl rfl)⟩
theorem lv_L_33 : zLV RL 33 mX12_place 12 3 := ⟨⟨rfl, (zt5 176 rfl rfl), (zt1 1 rfl rfl), (zt5 179 rfl rfl), by decide +kernel, by decide⟩, ⟨TX12, 19, rfl⟩, (zt5 177 rfl rfl), (zt5 178 rfl rfl)⟩
theorem lv_L_37 : zLV RL 37 mX12_cost 12 3 := ⟨⟨rfl, (zt5 193 rfl rfl), (zt1 1 rfl rfl), (zt5 196 rfl rfl), by decide +kernel, by decide⟩, ⟨TX12, 19, rfl⟩, (zt5 194 rfl rfl), (zt5 195 rfl rfl)⟩
theorem lv_L_40 : zLV RL 40 mX12_would 12 8 := ⟨⟨rfl, (zt5 201 rfl rfl), (zt1 1 rfl rfl), (zt5 204 rfl rfl), by decide +kernel, by decide⟩, ⟨TX12, 19, rfl⟩, (zt5 202 rfl rfl), (zt5 203 rfl rfl)⟩
theorem lv_L_44 : zLV RL 44 mX12_parent 12 3 := ⟨⟨rfl, (zt5 214 rfl rfl), (zt1 1 rfl rfl), (zt5 217 rfl rfl), by decide +kernel, by decide⟩, ⟨TX12, 19, rfl⟩, (zt5 215 rfl rfl), (zt5 216 rfl rfl)⟩
theorem lv_L_47 : zLV RL 47 mX12_dist 12 3 := ⟨⟨rfl, (zt5 221 rfl rfl), (zt1 1 rfl rfl), (zt5 224 rfl rfl), by decide +kernel, by decide⟩, ⟨TX12, 19, rfl⟩, (zt5 222 rfl rfl), (zt5 223 rfl rfl)⟩
theorem lv_L_50 : zLV RL 50 mX12_spared 12 3 := ⟨⟨rfl, (zt5 232 rfl rfl), (zt1 1 rfl rfl), (zt5 235 rfl rfl), by decide +kernel, by decide⟩, ⟨TX12, 19, rfl⟩, (zt5 233 rfl rfl), (zt5 234 rfl rfl)⟩
theorem lv_L_53 : zLV RL 53 mX12_jam 12 1 := ⟨⟨rfl, (zt6 7 rfl rfl), (zt1 1 rfl rfl), (zt6 10 rfl rfl), by decide +kernel, by decide⟩, ⟨TX12, 19, rfl⟩, (zt6 8 rfl rfl), (zt6 9 rfl rfl)⟩
theorem lv_L_56 : zLV RL 56 mX12_ahead 12 2 := ⟨⟨rfl, (zt6 23 rfl rfl), (zt1 1 rfl rfl), (zt6 26 rfl rfl), by decide +kernel, by decide⟩, ⟨TX12, 19, rfl⟩, (zt6 24 rfl rfl), (zt6 25 rfl rfl)⟩
theorem lv_L_59 : zLV RL 59 mX12_fewest 12 1 := ⟨⟨rfl, (zt6 34 rfl rfl), (zt1 1 rfl rfl), (zt6 37 rfl rfl), by decide +kernel, by decide⟩, ⟨TX12, 19, rfl⟩, (zt6 35 rfl rfl), (zt6 36 rfl rfl)⟩
theorem lv_L_62 : zLV RL 62 mX12_tree 12 2 := ⟨⟨rfl, (zt6 59 rfl rfl), (zt1 1 rfl rfl), (zt6 62 rfl rfl), by decide +kernel, by decide⟩, ⟨TX12, 19, rfl⟩, (zt6 60 rfl rfl), (zt6 61 rfl rfl)⟩
theorem lv_L_65 : zLV RL 65 mX12_meet 12 2 := ⟨⟨rfl, (zt6 67 rfl rfl), (zt1 1 rfl rfl), (zt6 70 rfl rfl), by decide +kernel, by decide⟩, ⟨TX12, 19, rfl⟩, (zt6 68 rfl rfl), (zt6 69 rfl rfl)⟩
theorem lv_L_68 : zLV RL 68 mX12_dear 12 1 := ⟨⟨rfl, (zt6 74 rfl rfl), (zt1 1 rfl rfl), (zt6 77 rfl rfl), by decide +kernel, by decide⟩, ⟨TX12, 19, rfl⟩, (zt6 75 rfl rfl), (zt6 76 rfl rfl)⟩
theorem lv_L_71 : zLV RL 71 mX12_shed 12 1 := ⟨⟨rfl, (zt6 81 rfl rfl), (zt1 1 rfl rfl), (zt6 84 rfl rfl), by decide +kernel, by decide⟩, ⟨TX12, 19, rfl⟩, (zt6 82 rfl rfl), (zt6 83 rfl rfl)⟩
theorem lv_L_74 : zLV RL 74 mX12_fits 12 1 := ⟨⟨rfl, (zt6 89 rfl rfl), (zt1 1 rfl rfl), (zt6 92 rfl rfl), by decide +kernel, by decide⟩, ⟨TX12, 19, rfl⟩, (zt6 90 rfl rfl), (zt6 91 rfl rfl)⟩
theorem lv_L_77 : zLV RL 77 mX12_look 12 1 := ⟨⟨rfl, (zt6 108 rfl rfl), (zt1 1 rfl rfl), (zt6 111 rfl rfl), by decide +kernel, by decide⟩, ⟨TX12, 19, rfl⟩, (zt6 109 rfl rfl), (zt6 110 rfl rfl)⟩
theorem lv_L_80 : zLV RL 80 mX12_crowd 12 1 := ⟨⟨rfl, (zt6 125 rfl rfl), (zt1 1 rfl rfl), (zt6 128 rfl rfl), by decide +kernel, by decide⟩, ⟨TX12, 19, rfl⟩, (zt6 126 rfl rfl), (zt6 127 rfl rfl)⟩
theorem lv_L_83 : zLV RL 83 mX12_tight 12 1 := ⟨⟨rfl, (zt6 132 rfl rfl), (zt1 1 rfl rfl), (zt6 135 rfl rfl), by decide +kernel, by decide⟩, ⟨TX12, 19, rfl⟩, (zt6 133 rfl rfl), (zt6 134 rfl rfl)⟩
theorem lv_L_86 : zLV RL 86 mX12_season 12 4 := ⟨⟨rfl, (zt6 139 rfl rfl), (zt1 1 rfl rfl), (zt6 142 rfl rfl), by decide +kernel, by decide⟩, ⟨TX12, 19, rfl⟩, (zt6 140 rfl rfl), (zt6 141 rfl rfl)⟩
theorem lv_L_90 : zLV RL 90 mX12_span 12 6 := ⟨⟨rfl, (zt6 162 rfl rfl), (zt1 1 rfl rfl), (zt6 165 rfl rfl), by decide +kernel, by decide⟩, ⟨TX12, 19, rfl⟩, (zt6 163 rfl rfl), (zt6 164 rfl rfl)⟩
theorem li_L_94 : zLI RL 94 mX12_init 0 := ⟨⟨rfl, (zt1 30 rfl rfl), (zt1 1 rfl rfl), (zt1 32 rfl rfl), by decide +kernel, by decide⟩, rfl, rfl, (zt1 31 rfl rfl)⟩
theorem li_L_97 : zLI RL 97 mX13_init 0 := ⟨⟨rfl, (zt6 168 rfl rfl), (zt1 16 rfl rfl), (zt6 170 rfl rfl), by decide +kernel, by decide⟩, rfl, rfl, (zt6 169 rfl rfl)⟩
theorem lv_L_98 : zLV RL 98 mX12_feed 12 5 := ⟨⟨rfl, (zt3 19 rfl rfl), (zt1 1 rfl rfl), (zt3 22 rfl rfl), by decide +kernel, by decide⟩, ⟨TX12, 19, rfl⟩, (zt3 20 rfl rfl), (zt3 21 rfl rfl)⟩
theorem lv_L_102 : zLV RL 102 mX13_feed 13 5 := ⟨⟨rfl, (zt7 115 rfl rfl), (zt1 16 rfl rfl), (zt7 118 rfl rfl), by decide +kernel, by decide⟩, ⟨TX13, 48, rfl⟩, (zt7 116 rfl rfl), (zt7 117 rfl rfl)⟩
theorem lv_L_108 : zLV RL 108 mX13_board 13 1 := ⟨⟨rfl, (zt7 119 rfl rfl), (zt1 16 rfl rfl), (zt7 122 rfl rfl), by decide +kernel, by decide⟩, ⟨TX13, 48, rfl⟩, (zt7 120 rfl rfl), (zt7 121 rfl rfl)⟩
theorem lv_L_109 : zLV RL 109 mX13_thrown 13 0 := ⟨⟨rfl, (zt7 111 rfl rfl), (zt1 16 rfl rfl), (zt7 114 rfl rfl), by decide +kernel, by decide⟩, ⟨TX13, 48, rfl⟩, (zt7 112 rfl rfl), (zt7 113 rfl rfl)⟩
theorem lv_L_115 : zLV RL 115 mX13_law 13 1 := ⟨⟨rfl, (zt7 193 rfl rfl), (zt1 16 rfl rfl), (zt7 196 rfl rfl), by decide +kernel, by decide⟩, ⟨TX13, 48, rfl⟩, (zt7 194 rfl rfl), (zt7 195 rfl rfl)⟩
theorem lv_L_118 : zLV RL 118 mX13_work 13 1 := ⟨⟨rfl, (zt8 0 rfl rfl), (zt1 16 rfl rfl), (zt8 3 rfl rfl), by decide +kernel, by decide⟩, ⟨TX13, 48, rfl⟩, (zt8 1 rfl rfl), (zt8 2 rfl rfl)⟩
theorem lv_L_121 : zLV RL 121 mX13_book 13 1 := ⟨⟨rfl, (zt7 232 rfl rfl), (zt1 16 rfl rfl), (zt7 235 rfl rfl), by decide +kernel, by decide⟩, ⟨TX13, 48, rfl⟩, (zt7 233 rfl rfl), (zt7 234 rfl rfl)⟩
theorem lv_L_122 : zLV RL 122 mX12_fault 12 0 := ⟨⟨rfl, (zt3 27 rfl rfl), (zt1 1 rfl rfl), (zt3 30 rfl rfl), by decide +kernel, by decide⟩, ⟨TX12, 19, rfl⟩, (zt3 28 rfl rfl), (zt3 29 rfl rfl)⟩
theorem lv_L_125 : zLV RL 125 mX13_fault 13 0 := ⟨⟨rfl, (zt7 236 rfl rfl), (zt1 16 rfl rfl), (zt7 239 rfl rfl), by decide +kernel, by decide⟩, ⟨TX13, 48, rfl⟩, (zt7 237 rfl rfl), (zt7 238 rfl rfl)⟩
theorem lv_L_126 : zLV RL 126 mX12_undo 12 0 := ⟨⟨rfl, (zt3 31 rfl rfl), (zt1 1 rfl rfl), (zt3 34 rfl rfl), by decide +kernel, by decide⟩, ⟨TX12, 19, rfl⟩, (zt3 32 rfl rfl), (zt3 33 rfl rfl)⟩
theorem lv_L_129 : zLV RL 129 mX13_undo 13 0 := ⟨⟨rfl, (zt8 129 rfl rfl), (zt1 16 rfl rfl), (zt8 132 rfl rfl), by decide +kernel, by decide⟩, ⟨TX13, 48, rfl⟩, (zt8 130 rfl rfl), (zt8 131 rfl rfl)⟩
theorem lv_L_132 : zLV RL 132 mX13_told 13 1 := ⟨⟨rfl, (zt8 133 rfl rfl), (zt1 16 rfl rfl), (zt8 136 rfl rfl), by decide +kernel, by decide⟩, ⟨TX13, 48, rfl⟩, (zt8 134 rfl rfl), (zt8 135 rfl rfl)⟩
theorem lv_L_136 : zLV RL 136 mX13_net 13 2 := ⟨⟨rfl, (zt8 168 rfl rfl), (zt1 16 rfl rfl), (zt8 171 rfl rfl), by decide +kernel, by decide⟩, ⟨TX13, 48, rfl⟩, (zt8 169 rfl rfl), (zt8 170 rfl rfl)⟩
theorem lv_L_140 : zLV RL 140 mX13_place 13 3 := ⟨⟨rfl, (zt8 184 rfl rfl), (zt1 16 rfl rfl), (zt8 187 rfl rfl), by decide +kernel, by decide⟩, ⟨TX13, 48, rfl⟩, (zt8 185 rfl rfl), (zt8 186 rfl rfl)⟩
theorem lv_L_143 : zLV RL 143 mX13_cost 13 3 := ⟨⟨rfl, (zt8 188 rfl rfl), (zt1 16 rfl rfl), (zt8 191 rfl rfl), by decide +kernel, by decide⟩, ⟨TX13, 48, rfl⟩, (zt8 189 rfl rfl), (zt8 190 rfl rfl)⟩
theorem lv_L_147 : zLV RL 147 mX13_would 13 8 := ⟨⟨rfl, (zt8 192 rfl rfl), (zt1 16 rfl rfl), (zt8 195 rfl rfl), by decide +kernel, by decide⟩, ⟨TX13, 48, rfl⟩, (zt8 193 rfl rfl), (zt8 194 rfl rfl)⟩
theorem lv_L_150 : zLV RL 150 mX13_parent 13 3 := ⟨⟨rfl, (zt8 196 rfl rfl), (zt1 16 rfl rfl), (zt8 199 rfl rfl), by decide +kernel, by decide⟩, ⟨TX13, 48, rfl⟩, (zt8 197 rfl rfl), (zt8 198 rfl rfl)⟩
theorem lv_L_153 : zLV RL 153 mX13_dist 13 3 := ⟨⟨rfl, (zt8 200 rfl rfl), (zt1 16 rfl rfl), (zt8 203 rfl rfl), by decide +kernel, by decide⟩, ⟨TX13, 48, rfl⟩, (zt8 201 rfl rfl), (zt8 202 rfl rfl)⟩
theorem lv_L_156 : zLV RL 156 mX13_spared 13 3 := ⟨⟨rfl, (zt8 204 rfl rfl), (zt1 16 rfl rfl), (zt8 207 rfl rfl), by decide +kernel, by decide⟩, ⟨TX13, 48, rfl⟩, (zt8 205 rfl rfl), (zt8 206 rfl rfl)⟩
theorem lv_L_157 : zLV RL 157 mX12_settled 12 0 := ⟨⟨rfl, (zt3 43 rfl rfl), (zt1 1 rfl rfl), (zt3 46 rfl rfl), by decide +kernel, by decide⟩, ⟨TX12, 19, rfl⟩, (zt3 44 rfl rfl), (zt3 45 rfl rfl)⟩
theorem lv_L_160 : zLV RL 160 mX13_settled 13 0 := ⟨⟨rfl, (zt8 211 rfl rfl), (zt1 16 rfl rfl), (zt8 214 rfl rfl), by decide +kernel, by decide⟩, ⟨TX13, 48, rfl⟩, (zt8 212 rfl rfl), (zt8 213 rfl rfl)⟩
theorem lv_L_163 : zLV RL 163 mX13_jam 13 1 := ⟨⟨rfl, (zt8 215 rfl rfl), (zt1 16 rfl rfl), (zt8 218 rfl rfl), by decide +kernel, by decide⟩, ⟨TX13, 48, rfl⟩, (zt8 216 rfl rfl), (zt8 217 rfl rfl)⟩
theorem lv_L_166 : zLV RL 166 mX13_ahead 13 2 := ⟨⟨rfl, (zt8 223 rfl rfl), (zt1 16 rfl rfl), (zt8 226 rfl rfl), by decide +kernel, by decide⟩, ⟨TX13, 48, rfl⟩, (zt8 224 rfl rfl), (zt8 225 rfl rfl)⟩
theorem lv_L_169 : zLV RL 169 mX13_fewest 13 1 := ⟨⟨rfl, (zt8 227 rfl rfl), (zt1 16 rfl rfl), (zt8 230 rfl rfl), by decide +kernel, by decide⟩, ⟨TX13, 48, rfl⟩, (zt8 228 rfl rfl), (zt8 229 rfl rfl)⟩
theorem lv_L_172 : zLV RL 172 mX13_tree 13 2 := ⟨⟨rfl, (zt9 0 rfl rfl), (zt1 16 rfl rfl), (zt9 3 rfl rfl), by decide +kernel, by decide⟩, ⟨TX13, 48, rfl⟩, (zt9 1 rfl rfl), (zt9 2 rfl rfl)⟩
theorem lv_L_175 : zLV RL 175 mX13_meet 13 2 := ⟨⟨rfl, (zt9 4 rfl rfl), (zt1 16 rfl rfl), (zt9 7 rfl rfl), by decide +kernel, by decide⟩, ⟨TX13, 48, rfl⟩, (zt9 5 rfl rfl), (zt9 6 rfl rfl)⟩
theorem lv_L_178 : zLV RL 178 mX13_dear 13 1 := ⟨⟨rfl, (zt9 8 rfl rfl), (zt1 16 rfl rfl), (zt9 11 rfl rfl), by decide +kernel, by decide⟩, ⟨TX13, 48, rfl⟩, (zt9 9 rfl rfl), (zt9 10 rfl rfl)⟩
theorem lv_L_181 : zLV RL 181 mX13_shed 13 1 := ⟨⟨rfl, (zt9 12 rfl rfl), (zt1 16 rfl rfl), (zt9 15 rfl rfl), by decide +kernel, by decide⟩, ⟨TX13, 48, rfl⟩, (zt9 13 rfl rfl), (zt9 14 rfl rfl)⟩
theorem lv_L_184 : zLV RL 184 mX13_fits 13 1 := ⟨⟨rfl, (zt9 16 rfl rfl), (zt1 16 rfl rfl), (zt9 19 rfl rfl), by decide +kernel, by decide⟩, ⟨TX13, 48, rfl⟩, (zt9 17 rfl rfl), (zt9 18 rfl rfl)⟩
theorem lv_L_187 : zLV RL 187 mX13_look 13 1 := ⟨⟨rfl, (zt9 28 rfl rfl), (zt1 16 rfl rfl), (zt9 31 rfl rfl), by decide +kernel, by decide⟩, ⟨TX13, 48, rfl⟩, (zt9 29 rfl rfl), (zt9 30 rfl rfl)⟩
theorem lv_L_190 : zLV RL 190 mX13_crowd 13 1 := ⟨⟨rfl, (zt9 43 rfl rfl), (zt1 16 rfl rfl), (zt9 46 rfl rfl), by decide +kernel, by decide⟩, ⟨TX13, 48, rfl⟩, (zt9 44 rfl rfl), (zt9 45 rfl rfl)⟩
theorem lv_L_193 : zLV RL 193 mX13_tight 13 1 := ⟨⟨rfl, (zt9 47 rfl rfl), (zt1 16 rfl rfl), (zt9 50 rfl rfl), by decide +kernel, by decide⟩, ⟨TX13, 48, rfl⟩, (zt9 48 rfl rfl), (zt9 49 rfl rfl)⟩
theorem lv_L_197 : zLV RL 197 mX13_season 13 4 := ⟨⟨rfl, (zt9 51 rfl rfl), (zt1 16 rfl rfl), (zt9 54 rfl rfl), by decide +kernel, by decide⟩, ⟨TX13, 48, rfl⟩, (zt9 52 rfl rfl), (zt9 53 rfl rfl)⟩
theorem lv_L_201 : zLV RL 201 mX13_span 13 6 := ⟨⟨rfl, (zt9 71 rfl rfl), (zt1 16 rfl rfl), (zt9 74 rfl rfl), by decide +kernel, by decide⟩, ⟨TX13, 48, rfl⟩, (zt9 72 rfl rfl), (zt9 73 rfl rfl)⟩
theorem lv_L_202 : zLV RL 202 mX12_image 12 0 := ⟨⟨rfl, (zt3 165 rfl rfl), (zt1 1 rfl rfl), (zt3 168 rfl rfl), by decide +kernel, by decide⟩, ⟨TX12, 19, rfl⟩, (zt3 166 rfl rfl), (zt3 167 rfl rfl)⟩
theorem lv_L_205 : zLV RL 205 mX13_image 13 0 := ⟨⟨rfl, (zt9 75 rfl rfl), (zt1 16 rfl rfl), (zt9 78 rfl rfl), by decide +kernel, by decide⟩, ⟨TX13, 48, rfl⟩, (zt9 76 rfl rfl), (zt9 77 rfl rfl)⟩
theorem lv_L_206 : zLV RL 206 mX12_restore 12 0 := ⟨⟨rfl, (zt3 174 rfl rfl), (zt1 1 rfl rfl), (zt3 177 rfl rfl), by decide +kernel, by decide⟩, ⟨TX12, 19, rfl⟩, (zt3 175 rfl rfl), (zt3 176 rfl rfl)⟩
theorem lv_L_209 : zLV RL 209 mX13_restore 13 0 := ⟨⟨rfl, (zt9 87 rfl rfl), (zt1 16 rfl rfl), (zt9 90 rfl rfl), by decide +kernel, by decide⟩, ⟨TX13, 48, rfl⟩, (zt9 88 rfl rfl), (zt9 89 rfl rfl)⟩
theorem lv_L_210 : zLV RL 210 mX12_status 12 1 := ⟨⟨rfl, (zt3 182 rfl rfl), (zt1 1 rfl rfl), (zt3 185 rfl rfl), by decide +kernel, by decide⟩, ⟨TX12, 19, rfl⟩, (zt3 183 rfl rfl), (zt3 184 rfl rfl)⟩
theorem lv_L_213 : zLV RL 213 mX13_status 13 1 := ⟨⟨rfl, (zt9 91 rfl rfl), (zt1 16 rfl rfl), (zt9 94 rfl rfl), by decide +kernel, by decide⟩, ⟨TX13, 48, rfl⟩, (zt9 92 rfl rfl), (zt9 93 rfl rfl)⟩
theorem lv_L_214 : zLV RL 214 mX12_count 12 1 := ⟨⟨rfl, (zt3 186 rfl rfl), (zt1 1 rfl rfl), (zt3 189 rfl rfl), by decide +kernel, by decide⟩, ⟨TX12, 19, rfl⟩, (zt3 187 rfl rfl), (zt3 188 rfl rfl)⟩
theorem lv_L_217 : zLV RL 217 mX13_count 13 1 := ⟨⟨rfl, (zt9 95 rfl rfl), (zt1 16 rfl rfl), (zt9 98 rfl rfl), by decide +kernel, by decide⟩, ⟨TX13, 48, rfl⟩, (zt9 96 rfl rfl), (zt9 97 rfl rfl)⟩
theorem lo_X0_3 : zLO RX0 3 := ⟨(zt1 77 rfl rfl), (zt1 34 rfl rfl), (zt1 35 rfl rfl)⟩
theorem lv_X0_46 : zLV RX0 46 mX0_clear 0 0 := ⟨⟨rfl, (zt1 78 rfl rfl), (zt1 3 rfl rfl), (zt1 81 rfl rfl), by decide +kernel, by decide⟩, ⟨TX0, 12, rfl⟩, (zt1 80 rfl rfl), (zs1 0 rfl rfl)⟩
theorem lv_X0_49 : zLV RX0 49 mX0_finish 0 0 := ⟨⟨rfl, (zt1 85 rfl rfl), (zt1 3 rfl rfl), (zt1 88 rfl rfl), by decide +kernel, by decide⟩, ⟨TX0, 12, rfl⟩, (zt1 87 rfl rfl), (zs1 1 rfl rfl)⟩
theorem lc_X0_55 : zLC RX0 55 := ⟨(zt4 152 rfl rfl), (zt1 188 rfl rfl), (zt1 187 rfl rfl), (zt1 6 rfl rfl)⟩
theorem lv_X0_61 : zLV RX0 61 mX10_failed 10 0 := ⟨⟨rfl, (zt4 37 rfl rfl), (zt1 2 rfl rfl), (zt4 40 rfl rfl), by decide +kernel, by decide⟩, ⟨TX10, 7, rfl⟩, (zt4 38 rfl rfl), (zt4 39 rfl rfl)⟩
theorem lv_X0_67 : zLV RX0 67 mX10_ended 10 0 := ⟨⟨rfl, (zt4 41 rfl rfl), (zt1 2 rfl rfl), (zt4 44 rfl rfl), by decide +kernel, by decide⟩, ⟨TX10, 7, rfl⟩, (zt4 42 rfl rfl), (zt4 43 rfl rfl)⟩
theorem lv_X0_70 : zLV RX0 70 mX0_readClause 0 2 := ⟨⟨rfl, (zt4 49 rfl rfl), (zt1 3 rfl rfl), (zt4 52 rfl rfl), by decide +kernel, by decide⟩, ⟨TX0, 12, rfl⟩, (zt4 51 rfl rfl), (zs1 14 rfl rfl)⟩
theorem ls_X0_74 : zLS RX0 74 mJ7_fill_53178 2 := ⟨⟨rfl, (zt1 82 rfl rfl), (zt1 4 rfl rfl), (zt1 84 rfl rfl), by decide +kernel, by decide⟩, (zt1 83 rfl rfl)⟩
theorem lv_X0_80 : zLV RX0 80 mX10_readWord 10 0 := ⟨⟨rfl, (zt4 53 rfl rfl), (zt1 2 rfl rfl), (zt4 56 rfl rfl), by decide +kernel, by decide⟩, ⟨TX10, 7, rfl⟩, (zt4 54 rfl rfl), (zt4 55 rfl rfl)⟩
theorem lv_X0_85 : zLV RX0 85 mX10_wordIs 10 1 := ⟨⟨rfl, (zt4 58 rfl rfl), (zt1 2 rfl rfl), (zt4 61 rfl rfl), by decide +kernel, by decide⟩, ⟨TX10, 7, rfl⟩, (zt4 59 rfl rfl), (zt4 60 rfl rfl)⟩
theorem lv_X0_101 : zLV RX0 101 mX10_fail 10 2 := ⟨⟨rfl, (zt4 115 rfl rfl), (zt1 2 rfl rfl), (zt4 118 rfl rfl), by decide +kernel, by decide⟩, ⟨TX10, 7, rfl⟩, (zt4 116 rfl rfl), (zt4 117 rfl rfl)⟩
theorem lv_X0_105 : zLV RX0 105 mX10_number 10 2 := ⟨⟨rfl, (zt4 119 rfl rfl), (zt1 2 rfl rfl), (zt4 122 rfl rfl), by decide +kernel, by decide⟩, ⟨TX10, 7, rfl⟩, (zt4 120 rfl rfl), (zt4 121 rfl rfl)⟩
theorem lv_X0_109 : zLV RX0 109 mX0_readWall 0 1 := ⟨⟨rfl, (zt4 127 rfl rfl), (zt1 3 rfl rfl), (zt4 130 rfl rfl), by decide +kernel, by decide⟩, ⟨TX0, 12, rfl⟩, (zt4 129 rfl rfl), (zs1 15 rfl rfl)⟩
theorem lv_X0_113 : zLV RX0 113 mX0_readWide 0 1 := ⟨⟨rfl, (zt4 135 rfl rfl), (zt1 3 rfl rfl), (zt4 138 rfl rfl), by decide +kernel, by decide⟩, ⟨TX0, 12, rfl⟩, (zt4 137 rfl rfl), (zs2 1 rfl rfl)⟩
theorem lv_X0_116 : zLV RX0 116 mX0_readPin 0 1 := ⟨⟨rfl, (zt4 139 rfl rfl), (zt1 3 rfl rfl), (zt4 142 rfl rfl), by decide +kernel, by decide⟩, ⟨TX0, 12, rfl⟩, (zt4 141 rfl rfl), (zs2 2 rfl rfl)⟩
theorem lv_X0_119 : zLV RX0 119 mX10_need 10 1 := ⟨⟨rfl, (zt4 143 rfl rfl), (zt1 2 rfl rfl), (zt4 146 rfl rfl), by decide +kernel, by decide⟩, ⟨TX10, 7, rfl⟩, (zt4 144 rfl rfl), (zt4 145 rfl rfl)⟩
theorem lv_X0_123 : zLV RX0 123 mX0_readPlace 0 1 := ⟨⟨rfl, (zt4 131 rfl rfl), (zt1 3 rfl rfl), (zt4 134 rfl rfl), by decide +kernel, by decide⟩, ⟨TX0, 12, rfl⟩, (zt4 133 rfl rfl), (zs2 0 rfl rfl)⟩
theorem lv_X0_127 : zLV RX0 127 mX0_keepPins 0 1 := ⟨⟨rfl, (zt1 89 rfl rfl), (zt1 3 rfl rfl), (zt1 92 rfl rfl), by decide +kernel, by decide⟩, ⟨TX0, 12, rfl⟩, (zt1 91 rfl rfl), (zs1 2 rfl rfl)⟩
theorem lv_X0_131 : zLV RX0 131 mX0_isInside 0 1 := ⟨⟨rfl, (zt1 93 rfl rfl), (zt1 3 rfl rfl), (zt1 96 rfl rfl), by decide +kernel, by decide⟩, ⟨TX0, 12, rfl⟩, (zt1 94 rfl rfl), (zt1 95 rfl rfl)⟩
theorem lv_X0_135 : zLV RX0 135 mX0_findBeside 0 1 := ⟨⟨rfl, (zt1 101 rfl rfl), (zt1 3 rfl rfl), (zt1 104 rfl rfl), by decide +kernel, by decide⟩, ⟨TX0, 12, rfl⟩, (zt1 103 rfl rfl), (zs1 3 rfl rfl)⟩
theorem lv_X0_138 : zLV RX0 138 mX0_hasPin 0 2 := ⟨⟨rfl, (zt1 97 rfl rfl), (zt1 3 rfl rfl), (zt1 100 rfl rfl), by decide +kernel, by decide⟩, ⟨TX0, 12, rfl⟩, (zt1 98 rfl rfl), (zt1 99 rfl rfl)⟩
theorem lo_X1_3 : zLO RX1 3 := ⟨(zt1 209 rfl rfl), (zt1 34 rfl rfl), (zt1 35 rfl rfl)⟩
theorem lc_X1_22 : zLC RX1 22 := ⟨(zt5 85 rfl rfl), (zt1 188 rfl rfl), (zt1 187 rfl rfl), (zt1 6 rfl rfl)⟩
theorem lv_X1_28 : zLV RX1 28 mX10_failed 10 0 := ⟨⟨rfl, (zt5 68 rfl rfl), (zt1 2 rfl rfl), (zt4 40 rfl rfl), by decide +kernel, by decide⟩, ⟨TX10, 7, rfl⟩, (zt4 38 rfl rfl), (zt4 39 rfl rfl)⟩
theorem lv_X1_34 : zLV RX1 34 mX10_ended 10 0 := ⟨⟨rfl, (zt5 69 rfl rfl), (zt1 2 rfl rfl), (zt4 44 rfl rfl), by decide +kernel, by decide⟩, ⟨TX10, 7, rfl⟩, (zt4 42 rfl rfl), (zt4 43 rfl rfl)⟩
theorem lv_X1_37 : zLV RX1 37 mX1_readLine 1 2 := ⟨⟨rfl, (zt5 70 rfl rfl), (zt1 7 rfl rfl), (zt5 73 rfl rfl), by decide +kernel, by decide⟩, ⟨TX1, 3, rfl⟩, (zt5 72 rfl rfl), (zs2 15 rfl rfl)⟩
theorem lv_X1_46 : zLV RX1 46 mX10_number 10 2 := ⟨⟨rfl, (zt5 74 rfl rfl), (zt1 2 rfl rfl), (zt4 122 rfl rfl), by decide +kernel, by decide⟩, ⟨TX10, 7, rfl⟩, (zt4 120 rfl rfl), (zt4 121 rfl rfl)⟩
theorem lv_X1_53 : zLV RX1 53 mX10_fail 10 2 := ⟨⟨rfl, (zt5 75 rfl rfl), (zt1 2 rfl rfl), (zt4 118 rfl rfl), by decide +kernel, by decide⟩, ⟨TX10, 7, rfl⟩, (zt4 116 rfl rfl), (zt4 117 rfl rfl)⟩
theorem lv_X1_60 : zLV RX1 60 mX1_hasLineAt 1 1 := ⟨⟨rfl, (zt5 76 rfl rfl), (zt1 7 rfl rfl), (zt5 79 rfl rfl), by decide +kernel, by decide⟩, ⟨TX1, 3, rfl⟩, (zt5 77 rfl rfl), (zt5 78 rfl rfl)⟩
theorem lv_X1_64 : zLV RX1 64 mX10_need 10 1 := ⟨⟨rfl, (zt5 80 rfl rfl), (zt1 2 rfl rfl), (zt4 146 rfl rfl), by decide +kernel, by decide⟩, ⟨TX10, 7, rfl⟩, (zt4 144 rfl rfl), (zt4 145 rfl rfl)⟩
theorem lo_X10_3 : zLO RX10 3 := ⟨(zt1 41 rfl rfl), (zt1 34 rfl rfl), (zt1 35 rfl rfl)⟩
theorem lv_X10_34 : zLV RX10 34 mX10_skipBlanks 10 0 := ⟨⟨rfl, (zt4 45 rfl rfl), (zt1 2 rfl rfl), (zt4 48 rfl rfl), by decide +kernel, by decide⟩, ⟨TX10, 7, rfl⟩, (zt4 46 rfl rfl), (zt4 47 rfl rfl)⟩
theorem ls_X10_37 : zLS RX10 37 mX10_isDigit 1 := ⟨⟨rfl, (zt4 123 rfl rfl), (zt1 2 rfl rfl), (zt4 125 rfl rfl), by decide +kernel, by decide⟩, (zt4 124 rfl rfl)⟩
theorem lv_X10_41 : zLV RX10 41 mX10_fail 10 2 := ⟨⟨rfl, (zt4 126 rfl rfl), (zt1 2 rfl rfl), (zt4 118 rfl rfl), by decide +kernel, by decide⟩, ⟨TX10, 7, rfl⟩, (zt4 116 rfl rfl), (zt4 117 rfl rfl)⟩
theorem lo_X11_3 : zLO RX11 3 := ⟨(zt1 226 rfl rfl), (zt1 34 rfl rfl), (zt1 35 rfl rfl)⟩
theorem lv_X11_34 : zLV RX11 34 mX10_failed 10 0 := ⟨⟨rfl, (zt4 232 rfl rfl), (zt1 2 rfl rfl), (zt4 40 rfl rfl), by decide +kernel, by decide⟩, ⟨TX10, 7, rfl⟩, (zt4 38 rfl rfl), (zt4 39 rfl rfl)⟩
theorem lv_X11_40 : zLV RX11 40 mX10_ended 10 0 := ⟨⟨rfl, (zt4 233 rfl rfl), (zt1 2 rfl rfl), (zt4 44 rfl rfl), by decide +kernel, by decide⟩, ⟨TX10, 7, rfl⟩, (zt4 42 rfl rfl), (zt4 43 rfl rfl)⟩
theorem lv_X11_43 : zLV RX11 43 mX10_takes 10 1 := ⟨⟨rfl, (zt4 234 rfl rfl), (zt1 2 rfl rfl), (zt4 189 rfl rfl), by decide +kernel, by decide⟩, ⟨TX10, 7, rfl⟩, (zt4 187 rfl rfl), (zt4 188 rfl rfl)⟩
theorem lv_X11_47 : zLV RX11 47 mX11_closeAgain 11 0 := ⟨⟨rfl, (zt4 235 rfl rfl), (zt1 8 rfl rfl), (zt4 238 rfl rfl), by decide +kernel, by decide⟩, ⟨TX11, 8, rfl⟩, (zt4 237 rfl rfl), (zs2 10 rfl rfl)⟩
theorem lv_X11_50 : zLV RX11 50 mX10_need 10 1 := ⟨⟨rfl, (zt5 3 rfl rfl), (zt1 2 rfl rfl), (zt4 146 rfl rfl), by decide +kernel, by decide⟩, ⟨TX10, 7, rfl⟩, (zt4 144 rfl rfl), (zt4 145 rfl rfl)⟩
theorem lv_X11_54 : zLV RX11 54 mX11_readStep 11 2 := ⟨⟨rfl, (zt5 4 rfl rfl), (zt1 8 rfl rfl), (zt5 7 rfl rfl), by decide +kernel, by decide⟩, ⟨TX11, 8, rfl⟩, (zt5 6 rfl rfl), (zs2 12 rfl rfl)⟩
theorem lv_X11_58 : zLV RX11 58 mX10_readWord 10 0 := ⟨⟨rfl, (zt5 8 rfl rfl), (zt1 2 rfl rfl), (zt4 56 rfl rfl), by decide +kernel, by decide⟩, ⟨TX10, 7, rfl⟩, (zt4 54 rfl rfl), (zt4 55 rfl rfl)⟩
theorem lv_X11_63 : zLV RX11 63 mX10_wordIs 10 1 := ⟨⟨rfl, (zt5 10 rfl rfl), (zt1 2 rfl rfl), (zt4 61 rfl rfl), by decide +kernel, by decide⟩, ⟨TX10, 7, rfl⟩, (zt4 59 rfl rfl), (zt4 60 rfl rfl)⟩
theorem lv_X11_67 : zLV RX11 67 mX11_openAgain 11 1 := ⟨⟨rfl, (zt5 11 rfl rfl), (zt1 8 rfl rfl), (zt5 14 rfl rfl), by decide +kernel, by decide⟩, ⟨TX11, 8, rfl⟩, (zt5 13 rfl rfl), (zs2 13 rfl rfl)⟩
theorem lv_X11_73 : zLV RX11 73 mX11_emit 11 3 := ⟨⟨rfl, (zt4 239 rfl rfl), (zt1 8 rfl rfl), (zt5 2 rfl rfl), by decide +kernel, by decide⟩, ⟨TX11, 8, rfl⟩, (zt5 1 rfl rfl), (zs2 11 rfl rfl)⟩
theorem lv_X11_84 : zLV RX11 84 mX10_number 10 2 := ⟨⟨rfl, (zt5 16 rfl rfl), (zt1 2 rfl rfl), (zt4 122 rfl rfl), by decide +kernel, by decide⟩, ⟨TX10, 7, rfl⟩, (zt4 120 rfl rfl), (zt4 121 rfl rfl)⟩
theorem lv_X11_105 : zLV RX11 105 mX10_fail 10 2 := ⟨⟨rfl, (zt5 15 rfl rfl), (zt1 2 rfl rfl), (zt4 118 rfl rfl), by decide +kernel, by decide⟩, ⟨TX10, 7, rfl⟩, (zt4 116 rfl rfl), (zt4 117 rfl rfl)⟩
theorem lv_X11_112 : zLV RX11 112 mX6_perform 6 4 := ⟨⟨rfl, (zt5 31 rfl rfl), (zt1 10 rfl rfl), (zt5 34 rfl rfl), by decide +kernel, by decide⟩, ⟨TX6, 7, rfl⟩, (zt5 32 rfl rfl), (zt5 33 rfl rfl)⟩
theorem lo_X12_3 : zLO RX12 3 := ⟨(zt1 33 rfl rfl), (zt1 34 rfl rfl), (zt1 35 rfl rfl)⟩
theorem li_X12_11 : zLIN RX12 11 mX10_init := ⟨by decide +kernel, rfl, rfl, (zt1 2 rfl rfl), (zt1 40 rfl rfl), (zt1 39 rfl rfl), by decide +kernel, by decide⟩
theorem li_X12_18 : zLI RX12 18 mX0_init 0 := ⟨⟨rfl, (zt1 74 rfl rfl), (zt1 3 rfl rfl), (zt1 76 rfl rfl), by decide +kernel, by decide⟩, rfl, rfl, (zt1 75 rfl rfl)⟩
theorem li_X12_28 : zLI RX12 28 mX5_init 0 := ⟨⟨rfl, (zt1 176 rfl rfl), (zt1 5 rfl rfl), (zt1 178 rfl rfl), by decide +kernel, by decide⟩, rfl, rfl, (zt1 177 rfl rfl)⟩
theorem li_X12_38 : zLIN RX12 38 mX1_init := ⟨by decide +kernel, rfl, rfl, (zt1 7 rfl rfl), (zt1 208 rfl rfl), (zt1 207 rfl rfl), by decide +kernel, by decide⟩
theorem li_X12_48 : zLIN RX12 48 mX11_init := ⟨by decide +kernel, rfl, rfl, (zt1 8 rfl rfl), (zt1 225 rfl rfl), (zt1 224 rfl rfl), by decide +kernel, by decide⟩
theorem li_X12_55 : zLI RX12 55 mX9_init 1 := ⟨⟨rfl, (zt2 15 rfl rfl), (zt1 9 rfl rfl), (zt2 17 rfl rfl), by decide +kernel, by decide⟩, rfl, rfl, (zt2 16 rfl rfl)⟩
theorem li_X12_64 : zLI RX12 64 mX6_init 3 := ⟨⟨rfl, (zt2 28 rfl rfl), (zt1 10 rfl rfl), (zt2 30 rfl rfl), by decide +kernel, by decide⟩, rfl, rfl, (zt2 29 rfl rfl)⟩
theorem li_X12_73 : zLI RX12 73 mX4_init 1 := ⟨⟨rfl, (zt2 69 rfl rfl), (zt1 12 rfl rfl), (zt2 71 rfl rfl), by decide +kernel, by decide⟩, rfl, rfl, (zt2 70 rfl rfl)⟩
theorem li_X12_80 : zLI RX12 80 mX2_init 3 := ⟨⟨rfl, (zt2 87 rfl rfl), (zt1 13 rfl rfl), (zt2 89 rfl rfl), by decide +kernel, by decide⟩, rfl, rfl, (zt2 88 rfl rfl)⟩
theorem li_X12_89 : zLIN RX12 89 mX7_init := ⟨by decide +kernel, rfl, rfl, (zt1 14 rfl rfl), (zt2 115 rfl rfl), (zt2 114 rfl rfl), by decide +kernel, by decide⟩
theorem li_X12_96 : zLIN RX12 96 mX8_init := ⟨by decide +kernel, rfl, rfl, (zt1 15 rfl rfl), (zt2 144 rfl rfl), (zt2 143 rfl rfl), by decide +kernel, by decide⟩
theorem lv_X12_104 : zLV RX12 104 mX12_startAnew 12 0 := ⟨⟨rfl, (zt2 182 rfl rfl), (zt1 1 rfl rfl), (zt2 185 rfl rfl), by decide +kernel, by decide⟩, ⟨TX12, 19, rfl⟩, (zt2 184 rfl rfl), (zs1 4 rfl rfl)⟩
theorem lv_X12_111 : zLV RX12 111 mX10_append 10 1 := ⟨⟨rfl, (zt3 23 rfl rfl), (zt1 2 rfl rfl), (zt3 26 rfl rfl), by decide +kernel, by decide⟩, ⟨TX10, 7, rfl⟩, (zt3 24 rfl rfl), (zt3 25 rfl rfl)⟩
theorem lv_X12_115 : zLV RX12 115 mX12_needLength 12 2 := ⟨⟨rfl, (zt3 198 rfl rfl), (zt1 1 rfl rfl), (zt3 201 rfl rfl), by decide +kernel, by decide⟩, ⟨TX12, 19, rfl⟩, (zt3 200 rfl rfl), (zs1 12 rfl rfl)⟩
theorem lv_X12_119 : zLV RX12 119 mX10_begin 10 1 := ⟨⟨rfl, (zt4 29 rfl rfl), (zt1 2 rfl rfl), (zt4 32 rfl rfl), by decide +kernel, by decide⟩, ⟨TX10, 7, rfl⟩, (zt4 30 rfl rfl), (zt4 31 rfl rfl)⟩
theorem lv_X12_122 : zLV RX12 122 mX0_read 0 1 := ⟨⟨rfl, (zt4 33 rfl rfl), (zt1 3 rfl rfl), (zt4 36 rfl rfl), by decide +kernel, by decide⟩, ⟨TX0, 12, rfl⟩, (zt4 34 rfl rfl), (zt4 35 rfl rfl)⟩
theorem lv_X12_126 : zLV RX12 126 mX10_failed 10 0 := ⟨⟨rfl, (zt4 147 rfl rfl), (zt1 2 rfl rfl), (zt4 40 rfl rfl), by decide +kernel, by decide⟩, ⟨TX10, 7, rfl⟩, (zt4 38 rfl rfl), (zt4 39 rfl rfl)⟩
theorem lv_X12_133 : zLV RX12 133 mX0_copyFrom 0 1 := ⟨⟨rfl, (zt4 148 rfl rfl), (zt1 3 rfl rfl), (zt4 151 rfl rfl), by decide +kernel, by decide⟩, ⟨TX0, 12, rfl⟩, (zt4 149 rfl rfl), (zt4 150 rfl rfl)⟩
theorem lv_X12_139 : zLV RX12 139 mX5_read 5 1 := ⟨⟨rfl, (zt4 160 rfl rfl), (zt1 5 rfl rfl), (zt4 163 rfl rfl), by decide +kernel, by decide⟩, ⟨TX5, 4, rfl⟩, (zt4 161 rfl rfl), (zt4 162 rfl rfl)⟩
theorem lv_X12_140 : zLV RX12 140 mX5_copyFrom 5 1 := ⟨⟨rfl, (zt4 217 rfl rfl), (zt1 5 rfl rfl), (zt4 220 rfl rfl), by decide +kernel, by decide⟩, ⟨TX5, 4, rfl⟩, (zt4 218 rfl rfl), (zt4 219 rfl rfl)⟩
theorem lv_X12_146 : zLV RX12 146 mX11_read 11 2 := ⟨⟨rfl, (zt4 228 rfl rfl), (zt1 8 rfl rfl), (zt4 231 rfl rfl), by decide +kernel, by decide⟩, ⟨TX11, 8, rfl⟩, (zt4 229 rfl rfl), (zt4 230 rfl rfl)⟩
theorem lv_X12_149 : zLV RX12 149 mX7_keepWork 7 1 := ⟨⟨rfl, (zt5 23 rfl rfl), (zt1 14 rfl rfl), (zt5 26 rfl rfl), by decide +kernel, by decide⟩, ⟨TX7, 6, rfl⟩, (zt5 24 rfl rfl), (zt5 25 rfl rfl)⟩
theorem lv_X12_153 : zLV RX12 153 mX11_run 11 2 := ⟨⟨rfl, (zt5 27 rfl rfl), (zt1 8 rfl rfl), (zt5 30 rfl rfl), by decide +kernel, by decide⟩, ⟨TX11, 8, rfl⟩, (zt5 28 rfl rfl), (zt5 29 rfl rfl)⟩
theorem lv_X12_163 : zLV RX12 163 mX1_read 1 2 := ⟨⟨rfl, (zt5 64 rfl rfl), (zt1 7 rfl rfl), (zt5 67 rfl rfl), by decide +kernel, by decide⟩, ⟨TX1, 3, rfl⟩, (zt5 65 rfl rfl), (zt5 66 rfl rfl)⟩
theorem lv_X12_164 : zLV RX12 164 mX1_copyFrom 1 1 := ⟨⟨rfl, (zt5 81 rfl rfl), (zt1 7 rfl rfl), (zt5 84 rfl rfl), by decide +kernel, by decide⟩, ⟨TX1, 3, rfl⟩, (zt5 82 rfl rfl), (zt5 83 rfl rfl)⟩
theorem lv_X12_173 : zLV RX12 173 mX7_takeWork 7 1 := ⟨⟨rfl, (zt3 35 rfl rfl), (zt1 14 rfl rfl), (zt3 38 rfl rfl), by decide +kernel, by decide⟩, ⟨TX7, 6, rfl⟩, (zt3 36 rfl rfl), (zt3 37 rfl rfl)⟩
theorem lv_X12_176 : zLV RX12 176 mX12_needWhat 12 2 := ⟨⟨rfl, (zt5 93 rfl rfl), (zt1 1 rfl rfl), (zt5 96 rfl rfl), by decide +kernel, by decide⟩, ⟨TX12, 19, rfl⟩, (zt5 95 rfl rfl), (zs3 0 rfl rfl)⟩
theorem lv_X12_188 : zLV RX12 188 mX9_joinedBits 9 1 := ⟨⟨rfl, (zt5 98 rfl rfl), (zt1 9 rfl rfl), (zt3 55 rfl rfl), by decide +kernel, by decide⟩, ⟨TX9, 2, rfl⟩, (zt3 53 rfl rfl), (zt3 54 rfl rfl)⟩
theorem lv_X12_192 : zLV RX12 192 mX9_overPlaces 9 1 := ⟨⟨rfl, (zt5 99 rfl rfl), (zt1 9 rfl rfl), (zt3 67 rfl rfl), by decide +kernel, by decide⟩, ⟨TX9, 2, rfl⟩, (zt3 65 rfl rfl), (zt3 66 rfl rfl)⟩
theorem lv_X12_195 : zLV RX12 195 mX9_allIsDone 9 1 := ⟨⟨rfl, (zt3 48 rfl rfl), (zt1 9 rfl rfl), (zt3 51 rfl rfl), by decide +kernel, by decide⟩, ⟨TX9, 2, rfl⟩, (zt3 49 rfl rfl), (zt3 50 rfl rfl)⟩
theorem lv_X12_199 : zLV RX12 199 mX9_lateBits 9 1 := ⟨⟨rfl, (zt5 100 rfl rfl), (zt1 9 rfl rfl), (zt5 103 rfl rfl), by decide +kernel, by decide⟩, ⟨TX9, 2, rfl⟩, (zt5 101 rfl rfl), (zt5 102 rfl rfl)⟩
theorem lv_X12_202 : zLV RX12 202 mX9_usesTogether 9 1 := ⟨⟨rfl, (zt5 113 rfl rfl), (zt1 9 rfl rfl), (zt5 116 rfl rfl), by decide +kernel, by decide⟩, ⟨TX9, 2, rfl⟩, (zt5 114 rfl rfl), (zt5 115 rfl rfl)⟩
theorem lv_X12_208 : zLV RX12 208 mX9_wallPlaces 9 1 := ⟨⟨rfl, (zt5 117 rfl rfl), (zt1 9 rfl rfl), (zt5 120 rfl rfl), by decide +kernel, by decide⟩, ⟨TX9, 2, rfl⟩, (zt5 118 rfl rfl), (zt5 119 rfl rfl)⟩
theorem lv_X12_211 : zLV RX12 211 mX12_needNet 12 1 := ⟨⟨rfl, (zt5 129 rfl rfl), (zt1 1 rfl rfl), (zt5 132 rfl rfl), by decide +kernel, by decide⟩, ⟨TX12, 19, rfl⟩, (zt5 131 rfl rfl), (zs3 1 rfl rfl)⟩
theorem lv_X12_224 : zLV RX12 224 mX8_sizeOf 8 1 := ⟨⟨rfl, (zt5 149 rfl rfl), (zt1 15 rfl rfl), (zt5 152 rfl rfl), by decide +kernel, by decide⟩, ⟨TX8, 6, rfl⟩, (zt5 150 rfl rfl), (zt5 151 rfl rfl)⟩
theorem lv_X12_228 : zLV RX12 228 mX9_overPlacesOf 9 2 := ⟨⟨rfl, (zt5 153 rfl rfl), (zt1 9 rfl rfl), (zt3 80 rfl rfl), by decide +kernel, by decide⟩, ⟨TX9, 2, rfl⟩, (zt3 78 rfl rfl), (zt3 79 rfl rfl)⟩
theorem lv_X12_232 : zLV RX12 232 mX9_delayOf 9 2 := ⟨⟨rfl, (zt5 154 rfl rfl), (zt1 9 rfl rfl), (zt5 107 rfl rfl), by decide +kernel, by decide⟩, ⟨TX9, 2, rfl⟩, (zt5 105 rfl rfl), (zt5 106 rfl rfl)⟩
theorem lv_X12_235 : zLV RX12 235 mX9_leavesOf 9 2 := ⟨⟨rfl, (zt5 155 rfl rfl), (zt1 9 rfl rfl), (zt5 158 rfl rfl), by decide +kernel, by decide⟩, ⟨TX9, 2, rfl⟩, (zt5 156 rfl rfl), (zt5 157 rfl rfl)⟩
theorem lv_X12_238 : zLV RX12 238 mX9_forksOf 9 2 := ⟨⟨rfl, (zt5 164 rfl rfl), (zt1 9 rfl rfl), (zt5 167 rfl rfl), by decide +kernel, by decide⟩, ⟨TX9, 2, rfl⟩, (zt5 165 rfl rfl), (zt5 166 rfl rfl)⟩
theorem lv_X12_241 : zLV RX12 241 mX9_deepestOf 9 2 := ⟨⟨rfl, (zt5 168 rfl rfl), (zt1 9 rfl rfl), (zt5 171 rfl rfl), by decide +kernel, by decide⟩, ⟨TX9, 2, rfl⟩, (zt5 169 rfl rfl), (zt5 170 rfl rfl)⟩
theorem lv_X12_244 : zLV RX12 244 mX9_isJoined 9 2 := ⟨⟨rfl, (zt5 172 rfl rfl), (zt1 9 rfl rfl), (zt3 59 rfl rfl), by decide +kernel, by decide⟩, ⟨TX9, 2, rfl⟩, (zt3 57 rfl rfl), (zt3 58 rfl rfl)⟩
theorem lv_X12_248 : zLV RX12 248 mX12_needPlace 12 2 := ⟨⟨rfl, (zt5 180 rfl rfl), (zt1 1 rfl rfl), (zt5 183 rfl rfl), by decide +kernel, by decide⟩, ⟨TX12, 19, rfl⟩, (zt5 182 rfl rfl), (zs3 3 rfl rfl)⟩
theorem lv_X12_263 : zLV RX12 263 mX9_netBits 9 2 := ⟨⟨rfl, (zt5 185 rfl rfl), (zt1 9 rfl rfl), (zt5 188 rfl rfl), by decide +kernel, by decide⟩, ⟨TX9, 2, rfl⟩, (zt5 186 rfl rfl), (zt5 187 rfl rfl)⟩
theorem lv_X12_269 : zLV RX12 269 mX9_overAt 9 2 := ⟨⟨rfl, (zt5 189 rfl rfl), (zt1 9 rfl rfl), (zt3 71 rfl rfl), by decide +kernel, by decide⟩, ⟨TX9, 2, rfl⟩, (zt3 69 rfl rfl), (zt3 70 rfl rfl)⟩
theorem lv_X12_272 : zLV RX12 272 mX6_priceOf 6 3 := ⟨⟨rfl, (zt5 197 rfl rfl), (zt1 10 rfl rfl), (zt3 142 rfl rfl), by decide +kernel, by decide⟩, ⟨TX6, 7, rfl⟩, (zt3 140 rfl rfl), (zt3 141 rfl rfl)⟩
theorem lv_X12_276 : zLV RX12 276 mX12_needRange 12 3 := ⟨⟨rfl, (zt5 205 rfl rfl), (zt1 1 rfl rfl), (zt5 208 rfl rfl), by decide +kernel, by decide⟩, ⟨TX12, 19, rfl⟩, (zt5 207 rfl rfl), (zs3 4 rfl rfl)⟩
theorem lv_X12_283 : zLV RX12 283 mX5_priceNow 5 0 := ⟨⟨rfl, (zt5 210 rfl rfl), (zt1 5 rfl rfl), (zt3 152 rfl rfl), by decide +kernel, by decide⟩, ⟨TX5, 4, rfl⟩, (zt3 150 rfl rfl), (zt3 151 rfl rfl)⟩
theorem lv_X12_290 : zLV RX12 290 mX6_distanceTo 6 3 := ⟨⟨rfl, (zt5 225 rfl rfl), (zt1 10 rfl rfl), (zt5 228 rfl rfl), by decide +kernel, by decide⟩, ⟨TX6, 7, rfl⟩, (zt5 226 rfl rfl), (zt5 227 rfl rfl)⟩
theorem lv_X12_293 : zLV RX12 293 mX6_sparedOf 6 3 := ⟨⟨rfl, (zt5 236 rfl rfl), (zt1 10 rfl rfl), (zt5 239 rfl rfl), by decide +kernel, by decide⟩, ⟨TX6, 7, rfl⟩, (zt5 237 rfl rfl), (zt5 238 rfl rfl)⟩
theorem lv_X12_296 : zLV RX12 296 mX8_copyFrom 8 1 := ⟨⟨rfl, (zt3 47 rfl rfl), (zt1 15 rfl rfl), (zt3 42 rfl rfl), by decide +kernel, by decide⟩, ⟨TX8, 6, rfl⟩, (zt3 40 rfl rfl), (zt3 41 rfl rfl)⟩
theorem lv_X12_298 : zLV RX12 298 mX6_goRound 6 1 := ⟨⟨rfl, (zt3 72 rfl rfl), (zt1 10 rfl rfl), (zt3 75 rfl rfl), by decide +kernel, by decide⟩, ⟨TX6, 7, rfl⟩, (zt3 73 rfl rfl), (zt3 74 rfl rfl)⟩
theorem lv_X12_301 : zLV RX12 301 mX12_needRow 12 1 := ⟨⟨rfl, (zt6 11 rfl rfl), (zt1 1 rfl rfl), (zt6 14 rfl rfl), by decide +kernel, by decide⟩, ⟨TX12, 19, rfl⟩, (zt6 13 rfl rfl), (zs3 5 rfl rfl)⟩
theorem lv_X12_304 : zLV RX12 304 mX12_goAhead 12 1 := ⟨⟨rfl, (zt6 16 rfl rfl), (zt1 1 rfl rfl), (zt6 19 rfl rfl), by decide +kernel, by decide⟩, ⟨TX12, 19, rfl⟩, (zt6 18 rfl rfl), (zs3 6 rfl rfl)⟩
theorem lv_X12_307 : zLV RX12 307 mX9_historiesTogether 9 1 := ⟨⟨rfl, (zt6 27 rfl rfl), (zt1 9 rfl rfl), (zt6 30 rfl rfl), by decide +kernel, by decide⟩, ⟨TX9, 2, rfl⟩, (zt6 28 rfl rfl), (zt6 29 rfl rfl)⟩
theorem lv_X12_310 : zLV RX12 310 mX4_fewestPlaces 4 2 := ⟨⟨rfl, (zt6 38 rfl rfl), (zt1 12 rfl rfl), (zt6 41 rfl rfl), by decide +kernel, by decide⟩, ⟨TX4, 3, rfl⟩, (zt6 39 rfl rfl), (zt6 40 rfl rfl)⟩
theorem lv_X12_313 : zLV RX12 313 mX8_has 8 2 := ⟨⟨rfl, (zt6 63 rfl rfl), (zt1 15 rfl rfl), (zt3 63 rfl rfl), by decide +kernel, by decide⟩, ⟨TX8, 6, rfl⟩, (zt3 61 rfl rfl), (zt3 62 rfl rfl)⟩
theorem lv_X12_317 : zLV RX12 317 mX6_markKept 6 2 := ⟨⟨rfl, (zt6 85 rfl rfl), (zt1 10 rfl rfl), (zt3 88 rfl rfl), by decide +kernel, by decide⟩, ⟨TX6, 7, rfl⟩, (zt3 86 rfl rfl), (zt3 87 rfl rfl)⟩
theorem lv_X12_320 : zLV RX12 320 mX2_findPairs 2 2 := ⟨⟨rfl, (zt6 93 rfl rfl), (zt1 13 rfl rfl), (zt6 96 rfl rfl), by decide +kernel, by decide⟩, ⟨TX2, 6, rfl⟩, (zt6 94 rfl rfl), (zt6 95 rfl rfl)⟩
theorem lv_X12_327 : zLV RX12 327 mX0_isInside 0 1 := ⟨⟨rfl, (zt6 112 rfl rfl), (zt1 3 rfl rfl), (zt1 96 rfl rfl), by decide +kernel, by decide⟩, ⟨TX0, 12, rfl⟩, (zt1 94 rfl rfl), (zt1 95 rfl rfl)⟩
theorem lv_X12_331 : zLV RX12 331 mX1_hasLineAt 1 1 := ⟨⟨rfl, (zt6 113 rfl rfl), (zt1 7 rfl rfl), (zt5 79 rfl rfl), by decide +kernel, by decide⟩, ⟨TX1, 3, rfl⟩, (zt5 77 rfl rfl), (zt5 78 rfl rfl)⟩
theorem lv_X12_334 : zLV RX12 334 mX2_biggestGroup 2 2 := ⟨⟨rfl, (zt6 114 rfl rfl), (zt1 13 rfl rfl), (zt6 117 rfl rfl), by decide +kernel, by decide⟩, ⟨TX2, 6, rfl⟩, (zt6 115 rfl rfl), (zt6 116 rfl rfl)⟩
theorem ls_X12_338 : zLS RX12 338 mX12_nameOfPlace 1 := ⟨⟨rfl, (zt6 119 rfl rfl), (zt1 1 rfl rfl), (zt6 121 rfl rfl), by decide +kernel, by decide⟩, (zt6 120 rfl rfl)⟩
theorem lv_X12_341 : zLV RX12 341 mX12_goSeason 12 3 := ⟨⟨rfl, (zt6 143 rfl rfl), (zt1 1 rfl rfl), (zt6 146 rfl rfl), by decide +kernel, by decide⟩, ⟨TX12, 19, rfl⟩, (zt6 145 rfl rfl), (zs3 9 rfl rfl)⟩
theorem lv_X12_347 : zLV RX12 347 mX7_keepImage 7 1 := ⟨⟨rfl, (zt3 169 rfl rfl), (zt1 14 rfl rfl), (zt3 172 rfl rfl), by decide +kernel, by decide⟩, ⟨TX7, 6, rfl⟩, (zt3 170 rfl rfl), (zt3 171 rfl rfl)⟩
theorem lv_X12_350 : zLV RX12 350 mX7_takeImage 7 1 := ⟨⟨rfl, (zt3 178 rfl rfl), (zt1 14 rfl rfl), (zt3 181 rfl rfl), by decide +kernel, by decide⟩, ⟨TX7, 6, rfl⟩, (zt3 179 rfl rfl), (zt3 180 rfl rfl)⟩
theorem lv_X12_359 : zLV RX12 359 mX8_start 8 1 := ⟨⟨rfl, (zt2 186 rfl rfl), (zt1 15 rfl rfl), (zt2 189 rfl rfl), by decide +kernel, by decide⟩, ⟨TX8, 6, rfl⟩, (zt2 187 rfl rfl), (zt2 188 rfl rfl)⟩
theorem lv_X12_362 : zLV RX12 362 mX5_forget 5 0 := ⟨⟨rfl, (zt2 192 rfl rfl), (zt1 5 rfl rfl), (zt1 183 rfl rfl), by decide +kernel, by decide⟩, ⟨TX5, 4, rfl⟩, (zt1 181 rfl rfl), (zt1 182 rfl rfl)⟩
theorem lv_X12_365 : zLV RX12 365 mX1_forget 1 0 := ⟨⟨rfl, (zt2 193 rfl rfl), (zt1 7 rfl rfl), (zt2 196 rfl rfl), by decide +kernel, by decide⟩, ⟨TX1, 3, rfl⟩, (zt2 194 rfl rfl), (zt2 195 rfl rfl)⟩
theorem lv_X12_366 : zLV RX12 366 mX7_forget 7 0 := ⟨⟨rfl, (zt2 197 rfl rfl), (zt1 14 rfl rfl), (zt2 200 rfl rfl), by decide +kernel, by decide⟩, ⟨TX7, 6, rfl⟩, (zt2 198 rfl rfl), (zt2 199 rfl rfl)⟩
theorem lv_X12_390 : zLV RX12 390 mX12_doDrawnDeed 12 0 := ⟨⟨rfl, (zt6 147 rfl rfl), (zt1 1 rfl rfl), (zt6 150 rfl rfl), by decide +kernel, by decide⟩, ⟨TX12, 19, rfl⟩, (zt6 149 rfl rfl), (zs3 10 rfl rfl)⟩
theorem lv_X12_393 : zLV RX12 393 mX12_drawn 12 1 := ⟨⟨rfl, (zt6 151 rfl rfl), (zt1 1 rfl rfl), (zt6 154 rfl rfl), by decide +kernel, by decide⟩, ⟨TX12, 19, rfl⟩, (zt6 153 rfl rfl), (zs3 11 rfl rfl)⟩
theorem lv_X12_396 : zLV RX12 396 mX6_easeAll 6 2 := ⟨⟨rfl, (zt6 158 rfl rfl), (zt1 10 rfl rfl), (zt5 56 rfl rfl), by decide +kernel, by decide⟩, ⟨TX6, 7, rfl⟩, (zt5 54 rfl rfl), (zt5 55 rfl rfl)⟩
theorem lv_X12_400 : zLV RX12 400 mX6_ripUp 6 2 := ⟨⟨rfl, (zt6 156 rfl rfl), (zt1 10 rfl rfl), (zt5 48 rfl rfl), by decide +kernel, by decide⟩, ⟨TX6, 7, rfl⟩, (zt5 46 rfl rfl), (zt5 47 rfl rfl)⟩
theorem lv_X12_403 : zLV RX12 403 mX6_layAnew 6 2 := ⟨⟨rfl, (zt6 157 rfl rfl), (zt1 10 rfl rfl), (zt5 39 rfl rfl), by decide +kernel, by decide⟩, ⟨TX6, 7, rfl⟩, (zt5 37 rfl rfl), (zt5 38 rfl rfl)⟩
theorem lo_X13_1 : zLO RX13 1 := ⟨(zt6 171 rfl rfl), (zt1 34 rfl rfl), (zt1 35 rfl rfl)⟩
theorem lv_X13_101 : zLV RX13 101 mX13_tellsNothing 13 0 := ⟨⟨rfl, (zt6 174 rfl rfl), (zt1 16 rfl rfl), (zt6 177 rfl rfl), by decide +kernel, by decide⟩, ⟨TX13, 48, rfl⟩, (zt6 176 rfl rfl), (zs3 12 rfl rfl)⟩
theorem lv_X13_104 : zLV RX13 104 mX13_beginsAnew 13 0 := ⟨⟨rfl, (zt6 178 rfl rfl), (zt1 16 rfl rfl), (zt6 181 rfl rfl), by decide +kernel, by decide⟩, ⟨TX13, 48, rfl⟩, (zt6 180 rfl rfl), (zs3 13 rfl rfl)⟩
theorem lv_X13_119 : zLV RX13 119 mX13_byteAt 13 1 := ⟨⟨rfl, (zt7 135 rfl rfl), (zt1 16 rfl rfl), (zt7 138 rfl rfl), by decide +kernel, by decide⟩, ⟨TX13, 48, rfl⟩, (zt7 137 rfl rfl), (zs4 6 rfl rfl)⟩
theorem lv_X13_129 : zLV RX13 129 mX13_blanks 13 0 := ⟨⟨rfl, (zt7 131 rfl rfl), (zt1 16 rfl rfl), (zt7 134 rfl rfl), by decide +kernel, by decide⟩, ⟨TX13, 48, rfl⟩, (zt7 133 rfl rfl), (zs4 5 rfl rfl)⟩
theorem ls_X13_132 : zLS RX13 132 mX13_isDigit 1 := ⟨⟨rfl, (zt7 177 rfl rfl), (zt1 16 rfl rfl), (zt7 179 rfl rfl), by decide +kernel, by decide⟩, (zt7 178 rfl rfl)⟩
theorem lv_X13_136 : zLV RX13 136 mX13_wrong 13 2 := ⟨⟨rfl, (zt7 161 rfl rfl), (zt1 16 rfl rfl), (zt7 164 rfl rfl), by decide +kernel, by decide⟩, ⟨TX13, 48, rfl⟩, (zt7 163 rfl rfl), (zs4 11 rfl rfl)⟩
theorem ls_X13_141 : zLS RX13 141 mX13_in 3 := ⟨⟨rfl, (zt6 194 rfl rfl), (zt1 16 rfl rfl), (zt6 196 rfl rfl), by decide +kernel, by decide⟩, (zt6 195 rfl rfl)⟩
theorem ls_X13_145 : zLS RX13 145 mX13_isSmall 1 := ⟨⟨rfl, (zt7 155 rfl rfl), (zt1 16 rfl rfl), (zt7 157 rfl rfl), by decide +kernel, by decide⟩, (zt7 156 rfl rfl)⟩
theorem lv_X13_148 : zLV RX13 148 mX13_wordHere 13 0 := ⟨⟨rfl, (zt7 151 rfl rfl), (zt1 16 rfl rfl), (zt7 154 rfl rfl), by decide +kernel, by decide⟩, ⟨TX13, 48, rfl⟩, (zt7 153 rfl rfl), (zs4 10 rfl rfl)⟩
theorem ls_X13_152 : zLS RX13 152 mX13_six 6 := ⟨⟨rfl, (zt7 158 rfl rfl), (zt1 16 rfl rfl), (zt7 160 rfl rfl), by decide +kernel, by decide⟩, (zt7 159 rfl rfl)⟩
theorem lv_X13_156 : zLV RX13 156 mX13_isWord 13 6 := ⟨⟨rfl, (zt7 147 rfl rfl), (zt1 16 rfl rfl), (zt7 150 rfl rfl), by decide +kernel, by decide⟩, ⟨TX13, 48, rfl⟩, (zt7 149 rfl rfl), (zs4 9 rfl rfl)⟩
theorem lv_X13_160 : zLV RX13 160 mX13_skipWord 13 0 := ⟨⟨rfl, (zt7 165 rfl rfl), (zt1 16 rfl rfl), (zt7 168 rfl rfl), by decide +kernel, by decide⟩, ⟨TX13, 48, rfl⟩, (zt7 167 rfl rfl), (zs4 12 rfl rfl)⟩
theorem lv_X13_169 : zLV RX13 169 mX13_number 13 2 := ⟨⟨rfl, (zt7 173 rfl rfl), (zt1 16 rfl rfl), (zt7 176 rfl rfl), by decide +kernel, by decide⟩, ⟨TX13, 48, rfl⟩, (zt7 175 rfl rfl), (zs4 14 rfl rfl)⟩
theorem lv_X13_173 : zLV RX13 173 mX13_placeTold 13 0 := ⟨⟨rfl, (zt7 181 rfl rfl), (zt1 16 rfl rfl), (zt7 184 rfl rfl), by decide +kernel, by decide⟩, ⟨TX13, 48, rfl⟩, (zt7 183 rfl rfl), (zs4 15 rfl rfl)⟩
theorem lv_X13_176 : zLV RX13 176 mX13_sign 13 1 := ⟨⟨rfl, (zt7 185 rfl rfl), (zt1 16 rfl rfl), (zt7 188 rfl rfl), by decide +kernel, by decide⟩, ⟨TX13, 48, rfl⟩, (zt7 187 rfl rfl), (zs5 0 rfl rfl)⟩
theorem lv_X13_180 : zLV RX13 180 mX13_kindHere 13 0 := ⟨⟨rfl, (zt7 143 rfl rfl), (zt1 16 rfl rfl), (zt7 146 rfl rfl), by decide +kernel, by decide⟩, ⟨TX13, 48, rfl⟩, (zt7 145 rfl rfl), (zs4 8 rfl rfl)⟩
theorem lv_X13_183 : zLV RX13 183 mX13_pinClause 13 0 := ⟨⟨rfl, (zt7 169 rfl rfl), (zt1 16 rfl rfl), (zt7 172 rfl rfl), by decide +kernel, by decide⟩, ⟨TX13, 48, rfl⟩, (zt7 171 rfl rfl), (zs4 13 rfl rfl)⟩
theorem lv_X13_186 : zLV RX13 186 mX13_bad 13 3 := ⟨⟨rfl, (zt7 123 rfl rfl), (zt1 16 rfl rfl), (zt7 126 rfl rfl), by decide +kernel, by decide⟩, ⟨TX13, 48, rfl⟩, (zt7 125 rfl rfl), (zs4 3 rfl rfl)⟩
theorem lv_X13_190 : zLV RX13 190 mX13_starts 13 1 := ⟨⟨rfl, (zt7 127 rfl rfl), (zt1 16 rfl rfl), (zt7 130 rfl rfl), by decide +kernel, by decide⟩, ⟨TX13, 48, rfl⟩, (zt7 129 rfl rfl), (zs4 4 rfl rfl)⟩
theorem lv_X13_193 : zLV RX13 193 mX13_clause 13 0 := ⟨⟨rfl, (zt7 139 rfl rfl), (zt1 16 rfl rfl), (zt7 142 rfl rfl), by decide +kernel, by decide⟩, ⟨TX13, 48, rfl⟩, (zt7 141 rfl rfl), (zs4 7 rfl rfl)⟩
theorem lv_X13_196 : zLV RX13 196 mX13_ends 13 0 := ⟨⟨rfl, (zt7 189 rfl rfl), (zt1 16 rfl rfl), (zt7 192 rfl rfl), by decide +kernel, by decide⟩, ⟨TX13, 48, rfl⟩, (zt7 191 rfl rfl), (zs5 1 rfl rfl)⟩
theorem lv_X13_199 : zLV RX13 199 mX13_isHere 13 1 := ⟨⟨rfl, (zt6 186 rfl rfl), (zt1 16 rfl rfl), (zt6 189 rfl rfl), by decide +kernel, by decide⟩, ⟨TX13, 48, rfl⟩, (zt6 188 rfl rfl), (zs3 15 rfl rfl)⟩
theorem lv_X13_202 : zLV RX13 202 mX13_isPin 13 2 := ⟨⟨rfl, (zt6 197 rfl rfl), (zt1 16 rfl rfl), (zt6 200 rfl rfl), by decide +kernel, by decide⟩, ⟨TX13, 48, rfl⟩, (zt6 199 rfl rfl), (zs4 1 rfl rfl)⟩
theorem lv_X13_206 : zLV RX13 206 mX13_laysPins 13 1 := ⟨⟨rfl, (zt6 182 rfl rfl), (zt1 16 rfl rfl), (zt6 185 rfl rfl), by decide +kernel, by decide⟩, ⟨TX13, 48, rfl⟩, (zt6 184 rfl rfl), (zs3 14 rfl rfl)⟩
theorem lv_X13_209 : zLV RX13 209 mX13_pinned 13 1 := ⟨⟨rfl, (zt6 201 rfl rfl), (zt1 16 rfl rfl), (zt6 204 rfl rfl), by decide +kernel, by decide⟩, ⟨TX13, 48, rfl⟩, (zt6 203 rfl rfl), (zs4 2 rfl rfl)⟩
theorem lv_X13_230 : zLV RX13 230 mX13_product 13 0 := ⟨⟨rfl, (zt7 201 rfl rfl), (zt1 16 rfl rfl), (zt7 204 rfl rfl), by decide +kernel, by decide⟩, ⟨TX13, 48, rfl⟩, (zt7 203 rfl rfl), (zs5 3 rfl rfl)⟩
theorem lv_X13_233 : zLV RX13 233 mX13_takesSign 13 1 := ⟨⟨rfl, (zt7 225 rfl rfl), (zt1 16 rfl rfl), (zt7 228 rfl rfl), by decide +kernel, by decide⟩, ⟨TX13, 48, rfl⟩, (zt7 227 rfl rfl), (zs5 9 rfl rfl)⟩
theorem lv_X13_236 : zLV RX13 236 mX13_notes 13 2 := ⟨⟨rfl, (zt7 213 rfl rfl), (zt1 16 rfl rfl), (zt7 216 rfl rfl), by decide +kernel, by decide⟩, ⟨TX13, 48, rfl⟩, (zt7 215 rfl rfl), (zs5 6 rfl rfl)⟩
theorem lv_X13_239 : zLV RX13 239 mX13_one 13 0 := ⟨⟨rfl, (zt7 205 rfl rfl), (zt1 16 rfl rfl), (zt7 208 rfl rfl), by decide +kernel, by decide⟩, ⟨TX13, 48, rfl⟩, (zt7 207 rfl rfl), (zs5 4 rfl rfl)⟩
theorem lv_X13_242 : zLV RX13 242 mX13_takes 13 6 := ⟨⟨rfl, (zt7 221 rfl rfl), (zt1 16 rfl rfl), (zt7 224 rfl rfl), by decide +kernel, by decide⟩, ⟨TX13, 48, rfl⟩, (zt7 223 rfl rfl), (zs5 8 rfl rfl)⟩
theorem lv_X13_245 : zLV RX13 245 mX13_opensOne 13 0 := ⟨⟨rfl, (zt7 209 rfl rfl), (zt1 16 rfl rfl), (zt7 212 rfl rfl), by decide +kernel, by decide⟩, ⟨TX13, 48, rfl⟩, (zt7 211 rfl rfl), (zs5 5 rfl rfl)⟩
theorem lv_X13_249 : zLV RX13 249 mX13_sum 13 0 := ⟨⟨rfl, (zt7 197 rfl rfl), (zt1 16 rfl rfl), (zt7 200 rfl rfl), by decide +kernel, by decide⟩, ⟨TX13, 48, rfl⟩, (zt7 199 rfl rfl), (zs5 2 rfl rfl)⟩
theorem lv_X13_252 : zLV RX13 252 mX13_knownHere 13 0 := ⟨⟨rfl, (zt7 217 rfl rfl), (zt1 16 rfl rfl), (zt7 220 rfl rfl), by decide +kernel, by decide⟩, ⟨TX13, 48, rfl⟩, (zt7 219 rfl rfl), (zs5 7 rfl rfl)⟩
theorem ls_X13_255 : zLS RX13 255 mX13_lays 3 := ⟨⟨rfl, (zt7 229 rfl rfl), (zt1 16 rfl rfl), (zt7 231 rfl rfl), by decide +kernel, by decide⟩, (zt7 230 rfl rfl)⟩
theorem ls_X13_259 : zLS RX13 259 mX13_less 2 := ⟨⟨rfl, (zt8 94 rfl rfl), (zt1 16 rfl rfl), (zt8 96 rfl rfl), by decide +kernel, by decide⟩, (zt8 95 rfl rfl)⟩
theorem ls_X13_262 : zLS RX13 262 mX13_more 2 := ⟨⟨rfl, (zt8 56 rfl rfl), (zt1 16 rfl rfl), (zt8 58 rfl rfl), by decide +kernel, by decide⟩, (zt8 57 rfl rfl)⟩
theorem ls_X13_265 : zLS RX13 265 mX13_by 3 := ⟨⟨rfl, (zt8 91 rfl rfl), (zt1 16 rfl rfl), (zt8 93 rfl rfl), by decide +kernel, by decide⟩, (zt8 92 rfl rfl)⟩
theorem lv_X13_269 : zLV RX13 269 mX13_stepHere 13 0 := ⟨⟨rfl, (zt8 8 rfl rfl), (zt1 16 rfl rfl), (zt8 11 rfl rfl), by decide +kernel, by decide⟩, ⟨TX13, 48, rfl⟩, (zt8 10 rfl rfl), (zs5 11 rfl rfl)⟩
theorem lv_X13_275 : zLV RX13 275 mX13_placeHere 13 0 := ⟨⟨rfl, (zt8 12 rfl rfl), (zt1 16 rfl rfl), (zt8 15 rfl rfl), by decide +kernel, by decide⟩, ⟨TX13, 48, rfl⟩, (zt8 14 rfl rfl), (zs5 12 rfl rfl)⟩
theorem lv_X13_278 : zLV RX13 278 mX13_readsStep 13 0 := ⟨⟨rfl, (zt8 4 rfl rfl), (zt1 16 rfl rfl), (zt8 7 rfl rfl), by decide +kernel, by decide⟩, ⟨TX13, 48, rfl⟩, (zt8 6 rfl rfl), (zs5 10 rfl rfl)⟩
theorem lv_X13_281 : zLV RX13 281 mX13_isWithin 13 2 := ⟨⟨rfl, (zt6 190 rfl rfl), (zt1 16 rfl rfl), (zt6 193 rfl rfl), by decide +kernel, by decide⟩, ⟨TX13, 48, rfl⟩, (zt6 192 rfl rfl), (zs4 0 rfl rfl)⟩
theorem ls_X13_284 : zLS RX13 284 mX13_treeOf 2 := ⟨⟨rfl, (zt8 38 rfl rfl), (zt1 16 rfl rfl), (zt8 40 rfl rfl), by decide +kernel, by decide⟩, (zt8 39 rfl rfl)⟩
theorem ls_X13_287 : zLS RX13 287 mX13_isIn 3 := ⟨⟨rfl, (zt8 35 rfl rfl), (zt1 16 rfl rfl), (zt8 37 rfl rfl), by decide +kernel, by decide⟩, (zt8 36 rfl rfl)⟩
theorem lv_X13_291 : zLV RX13 291 mX13_users 13 2 := ⟨⟨rfl, (zt8 49 rfl rfl), (zt1 16 rfl rfl), (zt8 52 rfl rfl), by decide +kernel, by decide⟩, ⟨TX13, 48, rfl⟩, (zt8 51 rfl rfl), (zs6 3 rfl rfl)⟩
theorem ls_X13_295 : zLS RX13 295 mX13_ones 1 := ⟨⟨rfl, (zt8 53 rfl rfl), (zt1 16 rfl rfl), (zt8 55 rfl rfl), by decide +kernel, by decide⟩, (zt8 54 rfl rfl)⟩
theorem lv_X13_298 : zLV RX13 298 mX13_byLaw 13 0 := ⟨⟨rfl, (zt8 87 rfl rfl), (zt1 16 rfl rfl), (zt8 90 rfl rfl), by decide +kernel, by decide⟩, ⟨TX13, 48, rfl⟩, (zt8 89 rfl rfl), (zs6 11 rfl rfl)⟩
theorem lv_X13_301 : zLV RX13 301 mX13_costBy 13 8 := ⟨⟨rfl, (zt8 83 rfl rfl), (zt1 16 rfl rfl), (zt8 86 rfl rfl), by decide +kernel, by decide⟩, ⟨TX13, 48, rfl⟩, (zt8 85 rfl rfl), (zs6 10 rfl rfl)⟩
theorem lv_X13_305 : zLV RX13 305 mX13_costOf 13 3 := ⟨⟨rfl, (zt8 79 rfl rfl), (zt1 16 rfl rfl), (zt8 82 rfl rfl), by decide +kernel, by decide⟩, ⟨TX13, 48, rfl⟩, (zt8 81 rfl rfl), (zs6 9 rfl rfl)⟩
theorem lv_X13_309 : zLV RX13 309 mX13_neighbour 13 2 := ⟨⟨rfl, (zt8 67 rfl rfl), (zt1 16 rfl rfl), (zt8 70 rfl rfl), by decide +kernel, by decide⟩, ⟨TX13, 48, rfl⟩, (zt8 69 rfl rfl), (zs6 6 rfl rfl)⟩
theorem lv_X13_312 : zLV RX13 312 mX13_isJoined 13 2 := ⟨⟨rfl, (zt8 31 rfl rfl), (zt1 16 rfl rfl), (zt8 34 rfl rfl), by decide +kernel, by decide⟩, ⟨TX13, 48, rfl⟩, (zt8 33 rfl rfl), (zs6 0 rfl rfl)⟩
theorem lv_X13_316 : zLV RX13 316 mX13_spreads 13 2 := ⟨⟨rfl, (zt8 75 rfl rfl), (zt1 16 rfl rfl), (zt8 78 rfl rfl), by decide +kernel, by decide⟩, ⟨TX13, 48, rfl⟩, (zt8 77 rfl rfl), (zs6 8 rfl rfl)⟩
theorem lv_X13_320 : zLV RX13 320 mX13_nextPin 13 2 := ⟨⟨rfl, (zt8 97 rfl rfl), (zt1 16 rfl rfl), (zt8 100 rfl rfl), by decide +kernel, by decide⟩, ⟨TX13, 48, rfl⟩, (zt8 99 rfl rfl), (zs6 12 rfl rfl)⟩
theorem lv_X13_323 : zLV RX13 323 mX13_parentBy 13 1 := ⟨⟨rfl, (zt8 101 rfl rfl), (zt1 16 rfl rfl), (zt8 104 rfl rfl), by decide +kernel, by decide⟩, ⟨TX13, 48, rfl⟩, (zt8 103 rfl rfl), (zs6 13 rfl rfl)⟩
theorem ls_X13_326 : zLS RX13 326 mX13_ripsAll 2 := ⟨⟨rfl, (zt8 109 rfl rfl), (zt1 16 rfl rfl), (zt8 111 rfl rfl), by decide +kernel, by decide⟩, (zt8 110 rfl rfl)⟩
theorem lv_X13_329 : zLV RX13 329 mX13_grows 13 2 := ⟨⟨rfl, (zt8 71 rfl rfl), (zt1 16 rfl rfl), (zt8 74 rfl rfl), by decide +kernel, by decide⟩, ⟨TX13, 48, rfl⟩, (zt8 73 rfl rfl), (zs6 7 rfl rfl)⟩
theorem ls_X13_332 : zLS RX13 332 mX13_placesOf 2 := ⟨⟨rfl, (zt8 116 rfl rfl), (zt1 16 rfl rfl), (zt8 118 rfl rfl), by decide +kernel, by decide⟩, (zt8 117 rfl rfl)⟩
theorem lv_X13_335 : zLV RX13 335 mX13_over 13 2 := ⟨⟨rfl, (zt8 45 rfl rfl), (zt1 16 rfl rfl), (zt8 48 rfl rfl), by decide +kernel, by decide⟩, ⟨TX13, 48, rfl⟩, (zt8 47 rfl rfl), (zs6 2 rfl rfl)⟩
theorem lv_X13_338 : zLV RX13 338 mX13_isFree 13 3 := ⟨⟨rfl, (zt8 63 rfl rfl), (zt1 16 rfl rfl), (zt8 66 rfl rfl), by decide +kernel, by decide⟩, ⟨TX13, 48, rfl⟩, (zt8 65 rfl rfl), (zs6 5 rfl rfl)⟩
theorem lv_X13_341 : zLV RX13 341 mX13_overOf 13 2 := ⟨⟨rfl, (zt8 41 rfl rfl), (zt1 16 rfl rfl), (zt8 44 rfl rfl), by decide +kernel, by decide⟩, ⟨TX13, 48, rfl⟩, (zt8 43 rfl rfl), (zs6 1 rfl rfl)⟩
theorem lv_X13_344 : zLV RX13 344 mX13_sheds 13 2 := ⟨⟨rfl, (zt8 59 rfl rfl), (zt1 16 rfl rfl), (zt8 62 rfl rfl), by decide +kernel, by decide⟩, ⟨TX13, 48, rfl⟩, (zt8 61 rfl rfl), (zs6 4 rfl rfl)⟩
theorem lv_X13_347 : zLV RX13 347 mX13_roundEnds 13 1 := ⟨⟨rfl, (zt8 27 rfl rfl), (zt1 16 rfl rfl), (zt8 30 rfl rfl), by decide +kernel, by decide⟩, ⟨TX13, 48, rfl⟩, (zt8 29 rfl rfl), (zs5 15 rfl rfl)⟩
theorem lv_X13_351 : zLV RX13 351 mX13_laysOne 13 2 := ⟨⟨rfl, (zt8 105 rfl rfl), (zt1 16 rfl rfl), (zt8 108 rfl rfl), by decide +kernel, by decide⟩, ⟨TX13, 48, rfl⟩, (zt8 107 rfl rfl), (zs6 14 rfl rfl)⟩
theorem lv_X13_354 : zLV RX13 354 mX13_rips 13 2 := ⟨⟨rfl, (zt8 112 rfl rfl), (zt1 16 rfl rfl), (zt8 115 rfl rfl), by decide +kernel, by decide⟩, ⟨TX13, 48, rfl⟩, (zt8 114 rfl rfl), (zs6 15 rfl rfl)⟩
theorem ls_X13_357 : zLS RX13 357 mX13_crits 3 := ⟨⟨rfl, (zt8 119 rfl rfl), (zt1 16 rfl rfl), (zt8 121 rfl rfl), by decide +kernel, by decide⟩, (zt8 120 rfl rfl)⟩
theorem lv_X13_360 : zLV RX13 360 mX13_blocks 13 2 := ⟨⟨rfl, (zt8 122 rfl rfl), (zt1 16 rfl rfl), (zt8 125 rfl rfl), by decide +kernel, by decide⟩, ⟨TX13, 48, rfl⟩, (zt8 124 rfl rfl), (zs7 0 rfl rfl)⟩
theorem ls_X13_363 : zLS RX13 363 mX13_eases 2 := ⟨⟨rfl, (zt8 126 rfl rfl), (zt1 16 rfl rfl), (zt8 128 rfl rfl), by decide +kernel, by decide⟩, (zt8 127 rfl rfl)⟩
theorem lv_X13_369 : zLV RX13 369 mX13_goes 13 2 := ⟨⟨rfl, (zt8 19 rfl rfl), (zt1 16 rfl rfl), (zt8 22 rfl rfl), by decide +kernel, by decide⟩, ⟨TX13, 48, rfl⟩, (zt8 21 rfl rfl), (zs5 13 rfl rfl)⟩
theorem lv_X13_372 : zLV RX13 372 mX13_does 13 2 := ⟨⟨rfl, (zt8 23 rfl rfl), (zt1 16 rfl rfl), (zt8 26 rfl rfl), by decide +kernel, by decide⟩, ⟨TX13, 48, rfl⟩, (zt8 25 rfl rfl), (zs5 14 rfl rfl)⟩
theorem ls_X13_379 : zLS RX13 379 mX13_copies 2 := ⟨⟨rfl, (zt8 16 rfl rfl), (zt1 16 rfl rfl), (zt8 18 rfl rfl), by decide +kernel, by decide⟩, (zt8 17 rfl rfl)⟩
theorem lv_X13_383 : zLV RX13 383 mX13_joinedOnes 13 1 := ⟨⟨rfl, (zt8 137 rfl rfl), (zt1 16 rfl rfl), (zt8 140 rfl rfl), by decide +kernel, by decide⟩, ⟨TX13, 48, rfl⟩, (zt8 139 rfl rfl), (zs7 1 rfl rfl)⟩
theorem lv_X13_387 : zLV RX13 387 mX13_overs 13 1 := ⟨⟨rfl, (zt8 141 rfl rfl), (zt1 16 rfl rfl), (zt8 144 rfl rfl), by decide +kernel, by decide⟩, ⟨TX13, 48, rfl⟩, (zt8 143 rfl rfl), (zs7 2 rfl rfl)⟩
theorem lv_X13_390 : zLV RX13 390 mX13_stepsOf 13 3 := ⟨⟨rfl, (zt8 157 rfl rfl), (zt1 16 rfl rfl), (zt8 160 rfl rfl), by decide +kernel, by decide⟩, ⟨TX13, 48, rfl⟩, (zt8 159 rfl rfl), (zs7 6 rfl rfl)⟩
theorem lv_X13_393 : zLV RX13 393 mX13_delay 13 2 := ⟨⟨rfl, (zt8 153 rfl rfl), (zt1 16 rfl rfl), (zt8 156 rfl rfl), by decide +kernel, by decide⟩, ⟨TX13, 48, rfl⟩, (zt8 155 rfl rfl), (zs7 5 rfl rfl)⟩
theorem lv_X13_396 : zLV RX13 396 mX13_isDone 13 1 := ⟨⟨rfl, (zt8 145 rfl rfl), (zt1 16 rfl rfl), (zt8 148 rfl rfl), by decide +kernel, by decide⟩, ⟨TX13, 48, rfl⟩, (zt8 147 rfl rfl), (zs7 3 rfl rfl)⟩
theorem lv_X13_400 : zLV RX13 400 mX13_late 13 0 := ⟨⟨rfl, (zt8 149 rfl rfl), (zt1 16 rfl rfl), (zt8 152 rfl rfl), by decide +kernel, by decide⟩, ⟨TX13, 48, rfl⟩, (zt8 151 rfl rfl), (zs7 4 rfl rfl)⟩
theorem lv_X13_403 : zLV RX13 403 mX13_placesOfAll 13 1 := ⟨⟨rfl, (zt8 161 rfl rfl), (zt1 16 rfl rfl), (zt8 164 rfl rfl), by decide +kernel, by decide⟩, ⟨TX13, 48, rfl⟩, (zt8 163 rfl rfl), (zs7 7 rfl rfl)⟩
theorem ls_X13_406 : zLS RX13 406 mX13_sumOf 2 := ⟨⟨rfl, (zt8 165 rfl rfl), (zt1 16 rfl rfl), (zt8 167 rfl rfl), by decide +kernel, by decide⟩, (zt8 166 rfl rfl)⟩
theorem lv_X13_409 : zLV RX13 409 mX13_childrenOf 13 2 := ⟨⟨rfl, (zt8 180 rfl rfl), (zt1 16 rfl rfl), (zt8 183 rfl rfl), by decide +kernel, by decide⟩, ⟨TX13, 48, rfl⟩, (zt8 182 rfl rfl), (zs7 10 rfl rfl)⟩
theorem lv_X13_412 : zLV RX13 412 mX13_isNet 13 1 := ⟨⟨rfl, (zt8 172 rfl rfl), (zt1 16 rfl rfl), (zt8 175 rfl rfl), by decide +kernel, by decide⟩, ⟨TX13, 48, rfl⟩, (zt8 174 rfl rfl), (zs7 8 rfl rfl)⟩
theorem lv_X13_415 : zLV RX13 415 mX13_ofTree 13 2 := ⟨⟨rfl, (zt8 176 rfl rfl), (zt1 16 rfl rfl), (zt8 179 rfl rfl), by decide +kernel, by decide⟩, ⟨TX13, 48, rfl⟩, (zt8 178 rfl rfl), (zs7 9 rfl rfl)⟩
theorem ls_X13_418 : zLS RX13 418 mX13_away 2 := ⟨⟨rfl, (zt8 208 rfl rfl), (zt1 16 rfl rfl), (zt8 210 rfl rfl), by decide +kernel, by decide⟩, (zt8 209 rfl rfl)⟩
theorem lv_X13_421 : zLV RX13 421 mX13_goesOn 13 1 := ⟨⟨rfl, (zt8 219 rfl rfl), (zt1 16 rfl rfl), (zt8 222 rfl rfl), by decide +kernel, by decide⟩, ⟨TX13, 48, rfl⟩, (zt8 221 rfl rfl), (zs7 11 rfl rfl)⟩
theorem lv_X13_425 : zLV RX13 425 mX13_meets 13 2 := ⟨⟨rfl, (zt8 232 rfl rfl), (zt1 16 rfl rfl), (zt8 235 rfl rfl), by decide +kernel, by decide⟩, ⟨TX13, 48, rfl⟩, (zt8 234 rfl rfl), (zs7 12 rfl rfl)⟩
theorem lv_X13_428 : zLV RX13 428 mX13_widens 13 1 := ⟨⟨rfl, (zt8 236 rfl rfl), (zt1 16 rfl rfl), (zt8 239 rfl rfl), by decide +kernel, by decide⟩, ⟨TX13, 48, rfl⟩, (zt8 238 rfl rfl), (zs7 13 rfl rfl)⟩
theorem lv_X13_431 : zLV RX13 431 mX13_tries 13 2 := ⟨⟨rfl, (zt9 24 rfl rfl), (zt1 16 rfl rfl), (zt9 27 rfl rfl), by decide +kernel, by decide⟩, ⟨TX13, 48, rfl⟩, (zt9 26 rfl rfl), (zs7 15 rfl rfl)⟩
theorem lv_X13_434 : zLV RX13 434 mX13_isSo 13 2 := ⟨⟨rfl, (zt9 20 rfl rfl), (zt1 16 rfl rfl), (zt9 23 rfl rfl), by decide +kernel, by decide⟩, ⟨TX13, 48, rfl⟩, (zt9 22 rfl rfl), (zs7 14 rfl rfl)⟩
theorem lv_X13_437 : zLV RX13 437 mX13_countsUses 13 0 := ⟨⟨rfl, (zt9 32 rfl rfl), (zt1 16 rfl rfl), (zt9 35 rfl rfl), by decide +kernel, by decide⟩, ⟨TX13, 48, rfl⟩, (zt9 34 rfl rfl), (zs8 0 rfl rfl)⟩
theorem lv_X13_440 : zLV RX13 440 mX13_isTold 13 1 := ⟨⟨rfl, (zt9 36 rfl rfl), (zt1 16 rfl rfl), (zt9 39 rfl rfl), by decide +kernel, by decide⟩, ⟨TX13, 48, rfl⟩, (zt9 38 rfl rfl), (zs8 1 rfl rfl)⟩
theorem ls_X13_443 : zLS RX13 443 mX13_asTold 1 := ⟨⟨rfl, (zt9 40 rfl rfl), (zt1 16 rfl rfl), (zt9 42 rfl rfl), by decide +kernel, by decide⟩, (zt9 41 rfl rfl)⟩
theorem lv_X13_450 : zLV RX13 450 mX13_draw 13 1 := ⟨⟨rfl, (zt9 66 rfl rfl), (zt1 16 rfl rfl), (zt9 69 rfl rfl), by decide +kernel, by decide⟩, ⟨TX13, 48, rfl⟩, (zt9 68 rfl rfl), (zs8 4 rfl rfl)⟩
theorem lv_X13_453 : zLV RX13 453 mX13_onceBy 13 2 := ⟨⟨rfl, (zt9 62 rfl rfl), (zt1 16 rfl rfl), (zt9 65 rfl rfl), by decide +kernel, by decide⟩, ⟨TX13, 48, rfl⟩, (zt9 64 rfl rfl), (zs8 3 rfl rfl)⟩
theorem ls_X13_456 : zLS RX13 456 mX13_isSeason 2 := ⟨⟨rfl, (zt9 55 rfl rfl), (zt1 16 rfl rfl), (zt9 57 rfl rfl), by decide +kernel, by decide⟩, (zt9 56 rfl rfl)⟩
theorem lv_X13_459 : zLV RX13 459 mX13_seasonBy 13 3 := ⟨⟨rfl, (zt9 58 rfl rfl), (zt1 16 rfl rfl), (zt9 61 rfl rfl), by decide +kernel, by decide⟩, ⟨TX13, 48, rfl⟩, (zt9 60 rfl rfl), (zs8 2 rfl rfl)⟩
theorem lv_X13_466 : zLV RX13 466 mX13_puts 13 3 := ⟨⟨rfl, (zt9 83 rfl rfl), (zt1 16 rfl rfl), (zt9 86 rfl rfl), by decide +kernel, by decide⟩, ⟨TX13, 48, rfl⟩, (zt9 85 rfl rfl), (zs8 6 rfl rfl)⟩
theorem lv_X13_470 : zLV RX13 470 mX13_putsAll 13 2 := ⟨⟨rfl, (zt9 79 rfl rfl), (zt1 16 rfl rfl), (zt9 82 rfl rfl), by decide +kernel, by decide⟩, ⟨TX13, 48, rfl⟩, (zt9 81 rfl rfl), (zs8 5 rfl rfl)⟩
theorem lo_X2_3 : zLO RX2 3 := ⟨(zt2 90 rfl rfl), (zt1 34 rfl rfl), (zt1 35 rfl rfl)⟩
theorem lv_X2_39 : zLV RX2 39 mX8_copyFrom 8 1 := ⟨⟨rfl, (zt6 97 rfl rfl), (zt1 15 rfl rfl), (zt3 42 rfl rfl), by decide +kernel, by decide⟩, ⟨TX8, 6, rfl⟩, (zt3 40 rfl rfl), (zt3 41 rfl rfl)⟩
theorem lv_X2_45 : zLV RX2 45 mX6_ripUp 6 2 := ⟨⟨rfl, (zt6 98 rfl rfl), (zt1 10 rfl rfl), (zt5 48 rfl rfl), by decide +kernel, by decide⟩, ⟨TX6, 7, rfl⟩, (zt5 46 rfl rfl), (zt5 47 rfl rfl)⟩
theorem lv_X2_51 : zLV RX2 51 mX6_layAnew 6 2 := ⟨⟨rfl, (zt6 99 rfl rfl), (zt1 10 rfl rfl), (zt5 39 rfl rfl), by decide +kernel, by decide⟩, ⟨TX6, 7, rfl⟩, (zt5 37 rfl rfl), (zt5 38 rfl rfl)⟩
theorem lv_X2_57 : zLV RX2 57 mX1_isRightBy 1 1 := ⟨⟨rfl, (zt6 100 rfl rfl), (zt1 7 rfl rfl), (zt6 103 rfl rfl), by decide +kernel, by decide⟩, ⟨TX1, 3, rfl⟩, (zt6 101 rfl rfl), (zt6 102 rfl rfl)⟩
theorem lc_X2_63 : zLC RX2 63 := ⟨(zt6 104 rfl rfl), (zt1 188 rfl rfl), (zt1 187 rfl rfl), (zt1 6 rfl rfl)⟩
theorem ls_X2_69 : zLS RX2 69 mJ7_fill_53178 2 := ⟨⟨rfl, (zt6 118 rfl rfl), (zt1 4 rfl rfl), (zt1 84 rfl rfl), by decide +kernel, by decide⟩, (zt1 83 rfl rfl)⟩
theorem lo_X3_3 : zLO RX3 3 := ⟨(zt2 37 rfl rfl), (zt1 34 rfl rfl), (zt1 35 rfl rfl)⟩
theorem lo_X4_3 : zLO RX4 3 := ⟨(zt2 72 rfl rfl), (zt1 34 rfl rfl), (zt1 35 rfl rfl)⟩
theorem li_X4_11 : zLIN RX4 11 mX3_init := ⟨by decide +kernel, rfl, rfl, (zt1 11 rfl rfl), (zt2 36 rfl rfl), (zt2 35 rfl rfl), by decide +kernel, by decide⟩
theorem ls_X4_31 : zLS RX4 31 mJ7_fill_53178 2 := ⟨⟨rfl, (zt6 42 rfl rfl), (zt1 4 rfl rfl), (zt1 84 rfl rfl), by decide +kernel, by decide⟩, (zt1 83 rfl rfl)⟩
theorem lv_X4_40 : zLV RX4 40 mX4_joinParts 4 1 := ⟨⟨rfl, (zt6 43 rfl rfl), (zt1 12 rfl rfl), (zt6 46 rfl rfl), by decide +kernel, by decide⟩, ⟨TX4, 3, rfl⟩, (zt6 45 rfl rfl), (zs3 7 rfl rfl)⟩
theorem lv_X4_44 : zLV RX4 44 mX4_stepOn 4 2 := ⟨⟨rfl, (zt6 47 rfl rfl), (zt1 12 rfl rfl), (zt6 50 rfl rfl), by decide +kernel, by decide⟩, ⟨TX4, 3, rfl⟩, (zt6 49 rfl rfl), (zs3 8 rfl rfl)⟩
theorem lv_X4_48 : zLV RX4 48 mX0_rootOf 0 1 := ⟨⟨rfl, (zt6 55 rfl rfl), (zt1 3 rfl rfl), (zt3 92 rfl rfl), by decide +kernel, by decide⟩, ⟨TX0, 12, rfl⟩, (zt3 90 rfl rfl), (zt3 91 rfl rfl)⟩
theorem lv_X4_52 : zLV RX4 52 mX3_clear 3 0 := ⟨⟨rfl, (zt6 51 rfl rfl), (zt1 11 rfl rfl), (zt3 124 rfl rfl), by decide +kernel, by decide⟩, ⟨TX3, 2, rfl⟩, (zt3 122 rfl rfl), (zt3 123 rfl rfl)⟩
theorem lv_X4_55 : zLV RX4 55 mX3_push 3 1 := ⟨⟨rfl, (zt6 52 rfl rfl), (zt1 11 rfl rfl), (zt3 129 rfl rfl), by decide +kernel, by decide⟩, ⟨TX3, 2, rfl⟩, (zt3 127 rfl rfl), (zt3 128 rfl rfl)⟩
theorem lv_X4_58 : zLV RX4 58 mX3_isEmpty 3 0 := ⟨⟨rfl, (zt6 53 rfl rfl), (zt1 11 rfl rfl), (zt3 133 rfl rfl), by decide +kernel, by decide⟩, ⟨TX3, 2, rfl⟩, (zt3 131 rfl rfl), (zt3 132 rfl rfl)⟩
theorem lv_X4_62 : zLV RX4 62 mX3_pop 3 0 := ⟨⟨rfl, (zt6 54 rfl rfl), (zt1 11 rfl rfl), (zt3 137 rfl rfl), by decide +kernel, by decide⟩, ⟨TX3, 2, rfl⟩, (zt3 135 rfl rfl), (zt3 136 rfl rfl)⟩
theorem lo_X5_3 : zLO RX5 3 := ⟨(zt1 179 rfl rfl), (zt1 34 rfl rfl), (zt1 35 rfl rfl)⟩
theorem lv_X5_21 : zLV RX5 21 mX5_forget 5 0 := ⟨⟨rfl, (zt1 180 rfl rfl), (zt1 5 rfl rfl), (zt1 183 rfl rfl), by decide +kernel, by decide⟩, ⟨TX5, 4, rfl⟩, (zt1 181 rfl rfl), (zt1 182 rfl rfl)⟩
theorem lc_X5_27 : zLC RX5 27 := ⟨(zt1 186 rfl rfl), (zt1 188 rfl rfl), (zt1 187 rfl rfl), (zt1 6 rfl rfl)⟩
theorem lv_X5_37 : zLV RX5 37 mX5_readSum 5 2 := ⟨⟨rfl, (zt4 164 rfl rfl), (zt1 5 rfl rfl), (zt4 167 rfl rfl), by decide +kernel, by decide⟩, ⟨TX5, 4, rfl⟩, (zt4 166 rfl rfl), (zs2 3 rfl rfl)⟩
theorem lv_X5_41 : zLV RX5 41 mX10_failed 10 0 := ⟨⟨rfl, (zt4 176 rfl rfl), (zt1 2 rfl rfl), (zt4 40 rfl rfl), by decide +kernel, by decide⟩, ⟨TX10, 7, rfl⟩, (zt4 38 rfl rfl), (zt4 39 rfl rfl)⟩
theorem lv_X5_47 : zLV RX5 47 mX10_ended 10 0 := ⟨⟨rfl, (zt4 216 rfl rfl), (zt1 2 rfl rfl), (zt4 44 rfl rfl), by decide +kernel, by decide⟩, ⟨TX10, 7, rfl⟩, (zt4 42 rfl rfl), (zt4 43 rfl rfl)⟩
theorem lv_X5_53 : zLV RX5 53 mX10_fail 10 2 := ⟨⟨rfl, (zt4 194 rfl rfl), (zt1 2 rfl rfl), (zt4 118 rfl rfl), by decide +kernel, by decide⟩, ⟨TX10, 7, rfl⟩, (zt4 116 rfl rfl), (zt4 117 rfl rfl)⟩
theorem lv_X5_57 : zLV RX5 57 mX5_readProduct 5 2 := ⟨⟨rfl, (zt4 168 rfl rfl), (zt1 5 rfl rfl), (zt4 171 rfl rfl), by decide +kernel, by decide⟩, ⟨TX5, 4, rfl⟩, (zt4 170 rfl rfl), (zs2 4 rfl rfl)⟩
theorem lv_X5_60 : zLV RX5 60 mX10_takes 10 1 := ⟨⟨rfl, (zt4 186 rfl rfl), (zt1 2 rfl rfl), (zt4 189 rfl rfl), by decide +kernel, by decide⟩, ⟨TX10, 7, rfl⟩, (zt4 187 rfl rfl), (zt4 188 rfl rfl)⟩
theorem lv_X5_64 : zLV RX5 64 mX5_emit 5 1 := ⟨⟨rfl, (zt4 182 rfl rfl), (zt1 5 rfl rfl), (zt4 185 rfl rfl), by decide +kernel, by decide⟩, ⟨TX5, 4, rfl⟩, (zt4 184 rfl rfl), (zs2 6 rfl rfl)⟩
theorem lv_X5_68 : zLV RX5 68 mX5_readUnit 5 2 := ⟨⟨rfl, (zt4 172 rfl rfl), (zt1 5 rfl rfl), (zt4 175 rfl rfl), by decide +kernel, by decide⟩, ⟨TX5, 4, rfl⟩, (zt4 174 rfl rfl), (zs2 5 rfl rfl)⟩
theorem lv_X5_71 : zLV RX5 71 mX10_digitIsNext 10 0 := ⟨⟨rfl, (zt4 177 rfl rfl), (zt1 2 rfl rfl), (zt4 180 rfl rfl), by decide +kernel, by decide⟩, ⟨TX10, 7, rfl⟩, (zt4 178 rfl rfl), (zt4 179 rfl rfl)⟩
theorem lv_X5_74 : zLV RX5 74 mX10_number 10 2 := ⟨⟨rfl, (zt4 181 rfl rfl), (zt1 2 rfl rfl), (zt4 122 rfl rfl), by decide +kernel, by decide⟩, ⟨TX10, 7, rfl⟩, (zt4 120 rfl rfl), (zt4 121 rfl rfl)⟩
theorem lv_X5_78 : zLV RX5 78 mX5_readInside 5 2 := ⟨⟨rfl, (zt4 190 rfl rfl), (zt1 5 rfl rfl), (zt4 193 rfl rfl), by decide +kernel, by decide⟩, ⟨TX5, 4, rfl⟩, (zt4 192 rfl rfl), (zs2 7 rfl rfl)⟩
theorem lv_X5_81 : zLV RX5 81 mX10_need 10 1 := ⟨⟨rfl, (zt4 195 rfl rfl), (zt1 2 rfl rfl), (zt4 146 rfl rfl), by decide +kernel, by decide⟩, ⟨TX10, 7, rfl⟩, (zt4 144 rfl rfl), (zt4 145 rfl rfl)⟩
theorem lv_X5_85 : zLV RX5 85 mX10_readWord 10 0 := ⟨⟨rfl, (zt4 196 rfl rfl), (zt1 2 rfl rfl), (zt4 56 rfl rfl), by decide +kernel, by decide⟩, ⟨TX10, 7, rfl⟩, (zt4 54 rfl rfl), (zt4 55 rfl rfl)⟩
theorem lv_X5_90 : zLV RX5 90 mX10_wordIs 10 1 := ⟨⟨rfl, (zt4 198 rfl rfl), (zt1 2 rfl rfl), (zt4 61 rfl rfl), by decide +kernel, by decide⟩, ⟨TX10, 7, rfl⟩, (zt4 59 rfl rfl), (zt4 60 rfl rfl)⟩
theorem lv_X5_94 : zLV RX5 94 mX5_readPair 5 3 := ⟨⟨rfl, (zt4 199 rfl rfl), (zt1 5 rfl rfl), (zt4 202 rfl rfl), by decide +kernel, by decide⟩, ⟨TX5, 4, rfl⟩, (zt4 201 rfl rfl), (zs2 8 rfl rfl)⟩
theorem lv_X5_100 : zLV RX5 100 mX5_readName 5 1 := ⟨⟨rfl, (zt4 204 rfl rfl), (zt1 5 rfl rfl), (zt4 207 rfl rfl), by decide +kernel, by decide⟩, ⟨TX5, 4, rfl⟩, (zt4 206 rfl rfl), (zs2 9 rfl rfl)⟩
theorem lo_X6_3 : zLO RX6 3 := ⟨(zt2 31 rfl rfl), (zt1 34 rfl rfl), (zt1 35 rfl rfl)⟩
theorem li_X6_11 : zLIN RX6 11 mX3_init := ⟨by decide +kernel, rfl, rfl, (zt1 11 rfl rfl), (zt2 36 rfl rfl), (zt2 35 rfl rfl), by decide +kernel, by decide⟩
theorem lv_X6_46 : zLV RX6 46 mX6_goRound 6 1 := ⟨⟨rfl, (zt5 35 rfl rfl), (zt1 10 rfl rfl), (zt3 75 rfl rfl), by decide +kernel, by decide⟩, ⟨TX6, 7, rfl⟩, (zt3 73 rfl rfl), (zt3 74 rfl rfl)⟩
theorem lv_X6_50 : zLV RX6 50 mX6_layAnew 6 2 := ⟨⟨rfl, (zt5 36 rfl rfl), (zt1 10 rfl rfl), (zt5 39 rfl rfl), by decide +kernel, by decide⟩, ⟨TX6, 7, rfl⟩, (zt5 37 rfl rfl), (zt5 38 rfl rfl)⟩
theorem lv_X6_54 : zLV RX6 54 mX6_ripUp 6 2 := ⟨⟨rfl, (zt5 45 rfl rfl), (zt1 10 rfl rfl), (zt5 48 rfl rfl), by decide +kernel, by decide⟩, ⟨TX6, 7, rfl⟩, (zt5 46 rfl rfl), (zt5 47 rfl rfl)⟩
theorem lv_X6_60 : zLV RX6 60 mX6_turnWall 6 2 := ⟨⟨rfl, (zt5 49 rfl rfl), (zt1 10 rfl rfl), (zt5 52 rfl rfl), by decide +kernel, by decide⟩, ⟨TX6, 7, rfl⟩, (zt5 51 rfl rfl), (zs2 14 rfl rfl)⟩
theorem lv_X6_63 : zLV RX6 63 mX6_easeAll 6 2 := ⟨⟨rfl, (zt5 53 rfl rfl), (zt1 10 rfl rfl), (zt5 56 rfl rfl), by decide +kernel, by decide⟩, ⟨TX6, 7, rfl⟩, (zt5 54 rfl rfl), (zt5 55 rfl rfl)⟩
theorem lv_X6_72 : zLV RX6 72 mX8_dropAll 8 1 := ⟨⟨rfl, (zt5 40 rfl rfl), (zt1 15 rfl rfl), (zt5 43 rfl rfl), by decide +kernel, by decide⟩, ⟨TX8, 6, rfl⟩, (zt5 41 rfl rfl), (zt5 42 rfl rfl)⟩
theorem lv_X6_76 : zLV RX6 76 mX0_rootOf 0 1 := ⟨⟨rfl, (zt3 89 rfl rfl), (zt1 3 rfl rfl), (zt3 92 rfl rfl), by decide +kernel, by decide⟩, ⟨TX0, 12, rfl⟩, (zt3 90 rfl rfl), (zt3 91 rfl rfl)⟩
theorem lv_X6_80 : zLV RX6 80 mX8_put 8 3 := ⟨⟨rfl, (zt3 108 rfl rfl), (zt1 15 rfl rfl), (zt3 111 rfl rfl), by decide +kernel, by decide⟩, ⟨TX8, 6, rfl⟩, (zt3 109 rfl rfl), (zt3 110 rfl rfl)⟩
theorem lv_X6_84 : zLV RX6 84 mX6_grow 6 2 := ⟨⟨rfl, (zt3 112 rfl rfl), (zt1 10 rfl rfl), (zt3 115 rfl rfl), by decide +kernel, by decide⟩, ⟨TX6, 7, rfl⟩, (zt3 114 rfl rfl), (zs1 7 rfl rfl)⟩
theorem lv_X6_102 : zLV RX6 102 mX9_isJoined 9 2 := ⟨⟨rfl, (zt3 76 rfl rfl), (zt1 9 rfl rfl), (zt3 59 rfl rfl), by decide +kernel, by decide⟩, ⟨TX9, 2, rfl⟩, (zt3 57 rfl rfl), (zt3 58 rfl rfl)⟩
theorem lv_X6_107 : zLV RX6 107 mX9_overPlacesOf 9 2 := ⟨⟨rfl, (zt3 77 rfl rfl), (zt1 9 rfl rfl), (zt3 80 rfl rfl), by decide +kernel, by decide⟩, ⟨TX9, 2, rfl⟩, (zt3 78 rfl rfl), (zt3 79 rfl rfl)⟩
theorem lv_X6_111 : zLV RX6 111 mX6_tearShared 6 2 := ⟨⟨rfl, (zt3 81 rfl rfl), (zt1 10 rfl rfl), (zt3 84 rfl rfl), by decide +kernel, by decide⟩, ⟨TX6, 7, rfl⟩, (zt3 83 rfl rfl), (zs1 5 rfl rfl)⟩
theorem lv_X6_114 : zLV RX6 114 mX9_overAt 9 2 := ⟨⟨rfl, (zt3 98 rfl rfl), (zt1 9 rfl rfl), (zt3 71 rfl rfl), by decide +kernel, by decide⟩, ⟨TX9, 2, rfl⟩, (zt3 69 rfl rfl), (zt3 70 rfl rfl)⟩
theorem lv_X6_120 : zLV RX6 120 mX6_markKept 6 2 := ⟨⟨rfl, (zt3 85 rfl rfl), (zt1 10 rfl rfl), (zt3 88 rfl rfl), by decide +kernel, by decide⟩, ⟨TX6, 7, rfl⟩, (zt3 86 rfl rfl), (zt3 87 rfl rfl)⟩
theorem lv_X6_123 : zLV RX6 123 mX8_drop 8 2 := ⟨⟨rfl, (zt3 103 rfl rfl), (zt1 15 rfl rfl), (zt3 106 rfl rfl), by decide +kernel, by decide⟩, ⟨TX8, 6, rfl⟩, (zt3 104 rfl rfl), (zt3 105 rfl rfl)⟩
theorem lv_X6_127 : zLV RX6 127 mX8_has 8 2 := ⟨⟨rfl, (zt3 93 rfl rfl), (zt1 15 rfl rfl), (zt3 63 rfl rfl), by decide +kernel, by decide⟩, ⟨TX8, 6, rfl⟩, (zt3 61 rfl rfl), (zt3 62 rfl rfl)⟩
theorem lv_X6_131 : zLV RX6 131 mX6_isClear 6 3 := ⟨⟨rfl, (zt3 94 rfl rfl), (zt1 10 rfl rfl), (zt3 97 rfl rfl), by decide +kernel, by decide⟩, ⟨TX6, 7, rfl⟩, (zt3 96 rfl rfl), (zs1 6 rfl rfl)⟩
theorem lv_X6_135 : zLV RX6 135 mX9_above 9 3 := ⟨⟨rfl, (zt3 99 rfl rfl), (zt1 9 rfl rfl), (zt3 102 rfl rfl), by decide +kernel, by decide⟩, ⟨TX9, 2, rfl⟩, (zt3 100 rfl rfl), (zt3 101 rfl rfl)⟩
theorem ls_X6_139 : zLS RX6 139 mJ7_fill_53178 2 := ⟨⟨rfl, (zt3 116 rfl rfl), (zt1 4 rfl rfl), (zt1 84 rfl rfl), by decide +kernel, by decide⟩, (zt1 83 rfl rfl)⟩
theorem lv_X6_145 : zLV RX6 145 mX6_spread 6 3 := ⟨⟨rfl, (zt3 117 rfl rfl), (zt1 10 rfl rfl), (zt3 120 rfl rfl), by decide +kernel, by decide⟩, ⟨TX6, 7, rfl⟩, (zt3 119 rfl rfl), (zs1 8 rfl rfl)⟩
theorem lv_X6_149 : zLV RX6 149 mX6_nearestPin 6 2 := ⟨⟨rfl, (zt3 153 rfl rfl), (zt1 10 rfl rfl), (zt3 156 rfl rfl), by decide +kernel, by decide⟩, ⟨TX6, 7, rfl⟩, (zt3 155 rfl rfl), (zs1 9 rfl rfl)⟩
theorem lv_X6_152 : zLV RX6 152 mX6_layBack 6 3 := ⟨⟨rfl, (zt3 157 rfl rfl), (zt1 10 rfl rfl), (zt3 160 rfl rfl), by decide +kernel, by decide⟩, ⟨TX6, 7, rfl⟩, (zt3 159 rfl rfl), (zs1 10 rfl rfl)⟩
theorem lv_X6_156 : zLV RX6 156 mX3_clear 3 0 := ⟨⟨rfl, (zt3 121 rfl rfl), (zt1 11 rfl rfl), (zt3 124 rfl rfl), by decide +kernel, by decide⟩, ⟨TX3, 2, rfl⟩, (zt3 122 rfl rfl), (zt3 123 rfl rfl)⟩
theorem lv_X6_160 : zLV RX6 160 mX3_push 3 1 := ⟨⟨rfl, (zt3 126 rfl rfl), (zt1 11 rfl rfl), (zt3 129 rfl rfl), by decide +kernel, by decide⟩, ⟨TX3, 2, rfl⟩, (zt3 127 rfl rfl), (zt3 128 rfl rfl)⟩
theorem lv_X6_164 : zLV RX6 164 mX3_isEmpty 3 0 := ⟨⟨rfl, (zt3 130 rfl rfl), (zt1 11 rfl rfl), (zt3 133 rfl rfl), by decide +kernel, by decide⟩, ⟨TX3, 2, rfl⟩, (zt3 131 rfl rfl), (zt3 132 rfl rfl)⟩
theorem lv_X6_168 : zLV RX6 168 mX3_pop 3 0 := ⟨⟨rfl, (zt3 134 rfl rfl), (zt1 11 rfl rfl), (zt3 137 rfl rfl), by decide +kernel, by decide⟩, ⟨TX3, 2, rfl⟩, (zt3 135 rfl rfl), (zt3 136 rfl rfl)⟩
theorem lv_X6_172 : zLV RX6 172 mX0_hasPin 0 2 := ⟨⟨rfl, (zt3 138 rfl rfl), (zt1 3 rfl rfl), (zt1 100 rfl rfl), by decide +kernel, by decide⟩, ⟨TX0, 12, rfl⟩, (zt1 98 rfl rfl), (zt1 99 rfl rfl)⟩
theorem lv_X6_178 : zLV RX6 178 mX6_priceOf 6 3 := ⟨⟨rfl, (zt3 139 rfl rfl), (zt1 10 rfl rfl), (zt3 142 rfl rfl), by decide +kernel, by decide⟩, ⟨TX6, 7, rfl⟩, (zt3 140 rfl rfl), (zt3 141 rfl rfl)⟩
theorem lv_X6_184 : zLV RX6 184 mX6_wayBack 6 1 := ⟨⟨rfl, (zt3 161 rfl rfl), (zt1 10 rfl rfl), (zt3 164 rfl rfl), by decide +kernel, by decide⟩, ⟨TX6, 7, rfl⟩, (zt3 163 rfl rfl), (zs1 11 rfl rfl)⟩
theorem ls_X6_195 : zLS RX6 195 mJ6_bitCount_0f7a4 1 := ⟨⟨rfl, (zt3 143 rfl rfl), (zt1 25 rfl rfl), (zt3 145 rfl rfl), by decide +kernel, by decide⟩, (zt3 144 rfl rfl)⟩
theorem lv_X6_200 : zLV RX6 200 mX5_priceNow 5 0 := ⟨⟨rfl, (zt3 149 rfl rfl), (zt1 5 rfl rfl), (zt3 152 rfl rfl), by decide +kernel, by decide⟩, ⟨TX5, 4, rfl⟩, (zt3 150 rfl rfl), (zt3 151 rfl rfl)⟩
theorem lv_X6_203 : zLV RX6 203 mX6_distanceTo 6 3 := ⟨⟨rfl, (zt6 0 rfl rfl), (zt1 10 rfl rfl), (zt5 228 rfl rfl), by decide +kernel, by decide⟩, ⟨TX6, 7, rfl⟩, (zt5 226 rfl rfl), (zt5 227 rfl rfl)⟩
theorem lo_X7_3 : zLO RX7 3 := ⟨(zt2 116 rfl rfl), (zt1 34 rfl rfl), (zt1 35 rfl rfl)⟩
theorem li_X7_34 : zLIN RX7 34 mX8_init := ⟨by decide +kernel, rfl, rfl, (zt1 15 rfl rfl), (zt2 144 rfl rfl), (zt2 143 rfl rfl), by decide +kernel, by decide⟩
theorem lv_X7_35 : zLV RX7 35 mX8_copyFrom 8 1 := ⟨⟨rfl, (zt3 39 rfl rfl), (zt1 15 rfl rfl), (zt3 42 rfl rfl), by decide +kernel, by decide⟩, ⟨TX8, 6, rfl⟩, (zt3 40 rfl rfl), (zt3 41 rfl rfl)⟩
theorem lo_X8_3 : zLO RX8 3 := ⟨(zt2 145 rfl rfl), (zt1 34 rfl rfl), (zt1 35 rfl rfl)⟩
theorem ls_X8_27 : zLS RX8 27 mJ7_fill_53178 2 := ⟨⟨rfl, (zt2 190 rfl rfl), (zt1 4 rfl rfl), (zt1 84 rfl rfl), by decide +kernel, by decide⟩, (zt1 83 rfl rfl)⟩
theorem lc_X8_36 : zLC RX8 36 := ⟨(zt2 191 rfl rfl), (zt1 188 rfl rfl), (zt1 187 rfl rfl), (zt1 6 rfl rfl)⟩
theorem lv_X8_47 : zLV RX8 47 mX8_has 8 2 := ⟨⟨rfl, (zt3 107 rfl rfl), (zt1 15 rfl rfl), (zt3 63 rfl rfl), by decide +kernel, by decide⟩, ⟨TX8, 6, rfl⟩, (zt3 61 rfl rfl), (zt3 62 rfl rfl)⟩
theorem lv_X8_51 : zLV RX8 51 mX8_drop 8 2 := ⟨⟨rfl, (zt5 44 rfl rfl), (zt1 15 rfl rfl), (zt3 106 rfl rfl), by decide +kernel, by decide⟩, ⟨TX8, 6, rfl⟩, (zt3 104 rfl rfl), (zt3 105 rfl rfl)⟩
theorem lo_X9_3 : zLO RX9 3 := ⟨(zt2 18 rfl rfl), (zt1 34 rfl rfl), (zt1 35 rfl rfl)⟩
theorem lv_X9_29 : zLV RX9 29 mX9_overAt 9 2 := ⟨⟨rfl, (zt3 68 rfl rfl), (zt1 9 rfl rfl), (zt3 71 rfl rfl), by decide +kernel, by decide⟩, ⟨TX9, 2, rfl⟩, (zt3 69 rfl rfl), (zt3 70 rfl rfl)⟩
theorem lv_X9_33 : zLV RX9 33 mX8_has 8 2 := ⟨⟨rfl, (zt3 60 rfl rfl), (zt1 15 rfl rfl), (zt3 63 rfl rfl), by decide +kernel, by decide⟩, ⟨TX8, 6, rfl⟩, (zt3 61 rfl rfl), (zt3 62 rfl rfl)⟩
theorem lv_X9_47 : zLV RX9 47 mX9_isJoined 9 2 := ⟨⟨rfl, (zt3 56 rfl rfl), (zt1 9 rfl rfl), (zt3 59 rfl rfl), by decide +kernel, by decide⟩, ⟨TX9, 2, rfl⟩, (zt3 57 rfl rfl), (zt3 58 rfl rfl)⟩
theorem lv_X9_51 : zLV RX9 51 mX9_joinedBits 9 1 := ⟨⟨rfl, (zt3 52 rfl rfl), (zt1 9 rfl rfl), (zt3 55 rfl rfl), by decide +kernel, by decide⟩, ⟨TX9, 2, rfl⟩, (zt3 53 rfl rfl), (zt3 54 rfl rfl)⟩
theorem lv_X9_55 : zLV RX9 55 mX9_overPlaces 9 1 := ⟨⟨rfl, (zt3 64 rfl rfl), (zt1 9 rfl rfl), (zt3 67 rfl rfl), by decide +kernel, by decide⟩, ⟨TX9, 2, rfl⟩, (zt3 65 rfl rfl), (zt3 66 rfl rfl)⟩
theorem lv_X9_58 : zLV RX9 58 mX9_delayOf 9 2 := ⟨⟨rfl, (zt5 104 rfl rfl), (zt1 9 rfl rfl), (zt5 107 rfl rfl), by decide +kernel, by decide⟩, ⟨TX9, 2, rfl⟩, (zt5 105 rfl rfl), (zt5 106 rfl rfl)⟩
theorem lv_X9_76 : zLV RX9 76 mX9_above 9 3 := ⟨⟨rfl, (zt5 112 rfl rfl), (zt1 9 rfl rfl), (zt3 102 rfl rfl), by decide +kernel, by decide⟩, ⟨TX9, 2, rfl⟩, (zt3 100 rfl rfl), (zt3 101 rfl rfl)⟩
theorem lv_X9_80 : zLV RX9 80 mX9_stepsToRoot 9 3 := ⟨⟨rfl, (zt5 108 rfl rfl), (zt1 9 rfl rfl), (zt5 111 rfl rfl), by decide +kernel, by decide⟩, ⟨TX9, 2, rfl⟩, (zt5 109 rfl rfl), (zt5 110 rfl rfl)⟩
theorem lv_X9_83 : zLV RX9 83 mX9_countChildren 9 2 := ⟨⟨rfl, (zt5 159 rfl rfl), (zt1 9 rfl rfl), (zt5 162 rfl rfl), by decide +kernel, by decide⟩, ⟨TX9, 2, rfl⟩, (zt5 161 rfl rfl), (zs3 2 rfl rfl)⟩
theorem ls_X9_87 : zLS RX9 87 mJ7_fill_53178 2 := ⟨⟨rfl, (zt5 163 rfl rfl), (zt1 4 rfl rfl), (zt1 84 rfl rfl), by decide +kernel, by decide⟩, (zt1 83 rfl rfl)⟩
theorem ln_L_8 : zLN RL 8 12 19 := ⟨RX12, TX12, cl_12, (zt1 28 rfl rfl), (zt1 29 rfl rfl), (zt1 1 rfl rfl)⟩
theorem ln_L_95 : zLN RL 95 13 48 := ⟨RX13, TX13, cl_13, (zt6 166 rfl rfl), (zt6 167 rfl rfl), (zt1 16 rfl rfl)⟩
theorem ln_X12_9 : zLN RX12 9 10 7 := ⟨RX10, TX10, cl_10, (zt1 36 rfl rfl), (zt1 37 rfl rfl), (zt1 2 rfl rfl)⟩
theorem ln_X12_16 : zLN RX12 16 0 12 := ⟨RX0, TX0, cl_0, (zt1 72 rfl rfl), (zt1 73 rfl rfl), (zt1 3 rfl rfl)⟩
theorem ln_X12_26 : zLN RX12 26 5 4 := ⟨RX5, TX5, cl_5, (zt1 174 rfl rfl), (zt1 175 rfl rfl), (zt1 5 rfl rfl)⟩
theorem ln_X12_36 : zLN RX12 36 1 3 := ⟨RX1, TX1, cl_1, (zt1 204 rfl rfl), (zt1 205 rfl rfl), (zt1 7 rfl rfl)⟩
theorem ln_X12_46 : zLN RX12 46 11 8 := ⟨RX11, TX11, cl_11, (zt1 221 rfl rfl), (zt1 222 rfl rfl), (zt1 8 rfl rfl)⟩
theorem ln_X12_53 : zLN RX12 53 9 2 := ⟨RX9, TX9, cl_9, (zt2 13 rfl rfl), (zt2 14 rfl rfl), (zt1 9 rfl rfl)⟩
theorem ln_X12_62 : zLN RX12 62 6 7 := ⟨RX6, TX6, cl_6, (zt2 26 rfl rfl), (zt2 27 rfl rfl), (zt1 10 rfl rfl)⟩
theorem ln_X12_71 : zLN RX12 71 4 3 := ⟨RX4, TX4, cl_4, (zt2 67 rfl rfl), (zt2 68 rfl rfl), (zt1 12 rfl rfl)⟩
theorem ln_X12_78 : zLN RX12 78 2 6 := ⟨RX2, TX2, cl_2, (zt2 85 rfl rfl), (zt2 86 rfl rfl), (zt1 13 rfl rfl)⟩
theorem ln_X12_87 : zLN RX12 87 7 6 := ⟨RX7, TX7, cl_7, (zt2 111 rfl rfl), (zt2 112 rfl rfl), (zt1 14 rfl rfl)⟩
theorem ln_X12_94 : zLN RX12 94 8 6 := ⟨RX8, TX8, cl_8, (zt2 140 rfl rfl), (zt2 141 rfl rfl), (zt1 15 rfl rfl)⟩
theorem ln_X4_9 : zLN RX4 9 3 2 := ⟨RX3, TX3, cl_3, (zt2 73 rfl rfl), (zt2 33 rfl rfl), (zt1 11 rfl rfl)⟩
theorem ln_X6_9 : zLN RX6 9 3 2 := ⟨RX3, TX3, cl_3, (zt2 32 rfl rfl), (zt2 33 rfl rfl), (zt1 11 rfl rfl)⟩
theorem lq_X7_9 : Cond.classLink RX7 9 RX8 ∈ zGT := (zt2 117 rfl rfl)
theorem ln_X7_9 : zLN RX7 9 8 6 := ⟨RX8, TX8, cl_8, (zt2 117 rfl rfl), (zt2 141 rfl rfl), (zt1 15 rfl rfl)⟩
theorem lw_int : Cond.arrayClass .int ∈ zGT := (zt1 71 rfl rfl)
theorem lw_long : Cond.arrayClass .long ∈ zGT := (zt9 99 rfl rfl)
theorem lw_bool : Cond.arrayClass .boolean ∈ zGT := (zt7 110 rfl rfl)
theorem lk_X12_406 : Cond.constant RX12 406 (1103515245) ∈ zGT := (zt6 155 rfl rfl)
theorem lk_X6_159 : Cond.constant RX6 159 (1000000) ∈ zGT := (zt3 125 rfl rfl)
theorem lk_X13_140 : Cond.constant RX13 140 (100000) ∈ zGT := (zt7 180 rfl rfl)
theorem lk_X13_424 : Cond.constant RX13 424 (99999) ∈ zGT := (zt8 231 rfl rfl)
theorem lk_X13_449 : Cond.constant RX13 449 (1103515245) ∈ zGT := (zt9 70 rfl rfl)
theorem lk_J6_265 : Cond.constant RJ6 265 (1431655765) ∈ zGT := (zt3 146 rfl rfl)
theorem lk_J6_266 : Cond.constant RJ6 266 (858993459) ∈ zGT := (zt3 147 rfl rfl)
theorem lk_J6_267 : Cond.constant RJ6 267 (252645135) ∈ zGT := (zt3 148 rfl rfl)
