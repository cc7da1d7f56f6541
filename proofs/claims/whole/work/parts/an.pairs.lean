/-! ===== every call, class and reference side by side ===== -/
section ZPairs
variable {l : Launch} {Xi : zXi} {I : zI} {g : zG}
theorem p_told (hl : l.stackTraces = false) {n : Nat} {S : sT} (hh : lvI n (I, g) S) (hn : n ≤ 520) {a1 : Int32} : lvP l Xi n mL_told mX13_told [.ref 0, .int a1, .ref 642] [.ref 74, .int a1] (I, g) := by
  have hs : zSt g := hh.1
  have hc : cI I g S := hh.2.2.1
  have hok := hh.2.2.2.2.1
  have hw : lvW l Xi mX12_told mL_told [.ref 0, .int a1] [.ref 0, .int a1, .ref 642] I g (fun _ => 1) (fun k => k = false) := fun kc ks post1 post hC hx hk => w_told hl hs hh.2.1 (by omega) hC (fun E h1 q hn => by obtain ⟨k, rfl, rfl, z⟩ := hx E h1 q hn; exact ⟨rfl, z⟩) hk
  have eL : rT (r_told I a1) = rT (q_told S a1) := by
    unfold r_told q_told
    simp only [eWh]
  cases e : rT (q_told S a1) with
  | some k => exact lvP_t hh hw (rT_kind (by simp [q_told]) e) (Or.inl rfl) (t_told hl (by omega) hs (eL.trans e)) (fun J g2 hr hs2 => m_toldN hl (by omega) hs2 hr e)
  | none =>
    have c := rT_none e
    obtain ⟨n1, rfl, f1, e1⟩ := gRng (lo := 0) (hi := 12) (by omega) (by omega) (c _ List.mem_cons_self)
    exact lvP_q hh hw (k_told hl (by omega) hs hc hok e1) (fun J g2 hr hs2 => m_told hl (by omega) hs2 hr hok e1)
theorem p_net (hl : l.stackTraces = false) {n : Nat} {S : sT} (hh : lvI n (I, g) S) (hn : n ≤ 520) {a1 a2 : Int32} : lvP l Xi n mL_net mX13_net [.ref 0, .int a1, .int a2, .ref 642] [.ref 74, .int a1, .int a2] (I, g) := by
  have hs : zSt g := hh.1
  have hc : cI I g S := hh.2.2.1
  have hok := hh.2.2.2.2.1
  have hw : lvW l Xi mX12_net mL_net [.ref 0, .int a1, .int a2] [.ref 0, .int a1, .int a2, .ref 642] I g (fun k => if k then 1 else 2) (fun _ => True) := fun kc ks post1 post hC hx hk => w_net hl hs hh.2.1 (by omega) hC (fun E h1 q hn => by obtain ⟨k, -, rfl, z⟩ := hx E h1 q hn; cases k; exact Or.inr ⟨rfl, z⟩; exact Or.inl ⟨rfl, z⟩) hk
  have eL : rT (r_net I a1 a2) = rT (q_net S a1 a2) := by
    unfold r_net q_net
    simp only [eNet hc, eWh]
  cases e : rT (q_net S a1 a2) with
  | some k => exact lvP_t hh hw trivial (by cases k; exact Or.inr rfl; exact Or.inl rfl) (t_net hl (by omega) hs (eL.trans e)) (fun J g2 hr hs2 => m_netN hl (by omega) hs2 hr e)
  | none =>
    have c := rT_none e
    obtain ⟨n1, rfl, e1⟩ := gNet hc (c _ List.mem_cons_self)
    obtain ⟨n2, rfl, f2, e2⟩ := gRng (lo := 0) (hi := 10) (by omega) (by omega) (c _ (List.mem_cons_of_mem _ List.mem_cons_self))
    exact lvP_q hh hw (k_net hl (by omega) hs hc hok e1 e2) (fun J g2 hr hs2 => m_net hl (by omega) hs2 hr hok e1 e2)
theorem p_place (hl : l.stackTraces = false) {n : Nat} {S : sT} (hh : lvI n (I, g) S) (hn : n ≤ 520) {a1 a2 a3 : Int32} : lvP l Xi n mL_place mX13_place [.ref 0, .int a1, .int a2, .int a3, .ref 642] [.ref 74, .int a1, .int a2, .int a3] (I, g) := by
  have hs : zSt g := hh.1
  have hc : cI I g S := hh.2.2.1
  have hok := hh.2.2.2.2.1
  have hw : lvW l Xi mX12_place mL_place [.ref 0, .int a1, .int a2, .int a3] [.ref 0, .int a1, .int a2, .int a3, .ref 642] I g (fun k => if k then 1 else 2) (fun _ => True) := fun kc ks post1 post hC hx hk => w_place hl hs hh.2.1 (by omega) hC (fun E h1 q hn => by obtain ⟨k, -, rfl, z⟩ := hx E h1 q hn; cases k; exact Or.inr ⟨rfl, z⟩; exact Or.inl ⟨rfl, z⟩) hk
  have eL : rT (r_place I a1 a2 a3) = rT (q_place S a1 a2 a3) := by
    unfold r_place q_place
    simp only [ePl hc, eWh]
  cases e : rT (q_place S a1 a2 a3) with
  | some k => exact lvP_t hh hw trivial (by cases k; exact Or.inr rfl; exact Or.inl rfl) (t_place hl (by omega) hs (eL.trans e)) (fun J g2 hr hs2 => m_placeN hl (by omega) hs2 hr e)
  | none =>
    have c := rT_none e
    obtain ⟨n1, n2, rfl, rfl, e1, e2⟩ := gPl hc (c _ List.mem_cons_self)
    obtain ⟨n3, rfl, f3, e3⟩ := gRng (lo := 0) (hi := 6) (by omega) (by omega) (c _ (List.mem_cons_of_mem _ List.mem_cons_self))
    exact lvP_q hh hw (k_place hl (by omega) hs hc hok e1 e2 e3) (fun J g2 hr hs2 => m_place hl (by omega) hs2 hr hok e1 e2 e3)
theorem p_jam (hl : l.stackTraces = false) {n : Nat} {S : sT} (hh : lvI n (I, g) S) (hn : n ≤ 520) {a1 : Int32} : lvP l Xi n mL_jam mX13_jam [.ref 0, .int a1, .ref 642] [.ref 74, .int a1] (I, g) := by
  have hs : zSt g := hh.1
  have hc : cI I g S := hh.2.2.1
  have hok := hh.2.2.2.2.1
  have hw : lvW l Xi mX12_jam mL_jam [.ref 0, .int a1] [.ref 0, .int a1, .ref 642] I g (fun _ => 1) (fun k => k = true) := fun kc ks post1 post hC hx hk => w_jam hl hs hh.2.1 (by omega) hC (fun E h1 q hn => by obtain ⟨k, rfl, rfl, z⟩ := hx E h1 q hn; exact ⟨rfl, z⟩) hk
  have eL : rT (r_jam I a1) = rT (q_jam S a1) := by
    unfold r_jam q_jam
    simp only [eRow hc]
  cases e : rT (q_jam S a1) with
  | some k => exact lvP_t hh hw (rT_kind (by simp [q_jam]) e) (Or.inl rfl) (t_jam hl (by omega) hs (eL.trans e)) (fun J g2 hr hs2 => m_jamN hl (by omega) hs2 hr e)
  | none =>
    have c := rT_none e
    obtain ⟨n1, rfl, e1⟩ := gRow hc (c _ List.mem_cons_self)
    exact lvP_q hh hw (k_jam hl (by omega) hs hc hok e1) (fun J g2 hr hs2 => m_jam hl (by omega) hs2 hr hok e1)
theorem p_ahead (hl : l.stackTraces = false) {n : Nat} {S : sT} (hh : lvI n (I, g) S) (hn : n ≤ 520) {a1 a2 : Int32} : lvP l Xi n mL_ahead mX13_ahead [.ref 0, .int a1, .int a2, .ref 642] [.ref 74, .int a1, .int a2] (I, g) := by
  have hs : zSt g := hh.1
  have hc : cI I g S := hh.2.2.1
  have hok := hh.2.2.2.2.1
  have hw : lvW l Xi mX12_ahead mL_ahead [.ref 0, .int a1, .int a2] [.ref 0, .int a1, .int a2, .ref 642] I g (fun _ => 1) (fun k => k = false) := fun kc ks post1 post hC hx hk => w_ahead hl hs hh.2.1 (by omega) hC (fun E h1 q hn => by obtain ⟨k, rfl, rfl, z⟩ := hx E h1 q hn; exact ⟨rfl, z⟩) hk
  have eL : rT (r_ahead I a1 a2) = rT (q_ahead S a1 a2) := by
    unfold r_ahead q_ahead
    simp only [eWh]
  cases e : rT (q_ahead S a1 a2) with
  | some k => exact lvP_t hh hw (rT_kind (by simp [q_ahead]) e) (Or.inl rfl) (t_ahead hl (by omega) hs (eL.trans e)) (fun J g2 hr hs2 => m_aheadN hl (by omega) hs2 hr e)
  | none =>
    have c := rT_none e
    obtain ⟨n1, rfl, f1, e1⟩ := gRng (lo := 0) (hi := 40) (by omega) (by omega) (c _ List.mem_cons_self)
    obtain ⟨n2, rfl, f2, e2⟩ := gRng (lo := 0) (hi := 3) (by omega) (by omega) (c _ (List.mem_cons_of_mem _ List.mem_cons_self))
    exact lvP_q hh hw (k_ahead hl (by omega) hs hc hok e1 e2) (fun J g2 hr hs2 => m_ahead hl (by omega) hs2 hr hok e1 e2)
theorem p_fewest (hl : l.stackTraces = false) {n : Nat} {S : sT} (hh : lvI n (I, g) S) (hn : n ≤ 520) {a1 : Int32} : lvP l Xi n mL_fewest mX13_fewest [.ref 0, .int a1, .ref 642] [.ref 74, .int a1] (I, g) := by
  have hs : zSt g := hh.1
  have hc : cI I g S := hh.2.2.1
  have hok := hh.2.2.2.2.1
  have hw : lvW l Xi mX12_fewest mL_fewest [.ref 0, .int a1] [.ref 0, .int a1, .ref 642] I g (fun _ => 1) (fun k => k = true) := fun kc ks post1 post hC hx hk => w_fewest hl hs hh.2.1 (by omega) hC (fun E h1 q hn => by obtain ⟨k, rfl, rfl, z⟩ := hx E h1 q hn; exact ⟨rfl, z⟩) hk
  have eL : rT (r_fewest I a1) = rT (q_fewest S a1) := by
    unfold r_fewest q_fewest
    simp only [eNet hc]
  cases e : rT (q_fewest S a1) with
  | some k => exact lvP_t hh hw (rT_kind (by simp [q_fewest]) e) (Or.inl rfl) (t_fewest hl (by omega) hs (eL.trans e)) (fun J g2 hr hs2 => m_fewestN hl (by omega) hs2 hr e)
  | none =>
    have c := rT_none e
    obtain ⟨n1, rfl, e1⟩ := gNet hc (c _ List.mem_cons_self)
    exact lvP_q hh hw (k_fewest hl (by omega) hs hc hok e1) (fun J g2 hr hs2 => m_fewest hl (by omega) hs2 hr hok e1)
theorem p_tree (hl : l.stackTraces = false) {n : Nat} {S : sT} (hh : lvI n (I, g) S) (hn : n ≤ 520) {a1 a2 : Int32} : lvP l Xi n mL_tree mX13_tree [.ref 0, .int a1, .int a2, .ref 642] [.ref 74, .int a1, .int a2] (I, g) := by
  have hs : zSt g := hh.1
  have hc : cI I g S := hh.2.2.1
  have hok := hh.2.2.2.2.1
  have hw : lvW l Xi mX12_tree mL_tree [.ref 0, .int a1, .int a2] [.ref 0, .int a1, .int a2, .ref 642] I g (fun _ => 1) (fun k => k = true) := fun kc ks post1 post hC hx hk => w_tree hl hs hh.2.1 (by omega) hC (fun E h1 q hn => by obtain ⟨k, rfl, rfl, z⟩ := hx E h1 q hn; exact ⟨rfl, z⟩) hk
  have eL : rT (r_tree I a1 a2) = rT (q_tree S a1 a2) := by
    unfold r_tree q_tree
    simp only [eNet hc, eRow hc]
  cases e : rT (q_tree S a1 a2) with
  | some k => exact lvP_t hh hw (rT_kind (by simp [q_tree]) e) (Or.inl rfl) (t_tree hl (by omega) hs (eL.trans e)) (fun J g2 hr hs2 => m_treeN hl (by omega) hs2 hr e)
  | none =>
    have c := rT_none e
    obtain ⟨n1, rfl, e1⟩ := gNet hc (c _ List.mem_cons_self)
    obtain ⟨n2, rfl, e2⟩ := gRow hc (c _ (List.mem_cons_of_mem _ List.mem_cons_self))
    exact lvP_q hh hw (k_tree hl (by omega) hs hc hok e1 e2) (fun J g2 hr hs2 => m_tree hl (by omega) hs2 hr hok e1 e2)
theorem p_meet (hl : l.stackTraces = false) {n : Nat} {S : sT} (hh : lvI n (I, g) S) (hn : n ≤ 520) {a1 a2 : Int32} : lvP l Xi n mL_meet mX13_meet [.ref 0, .int a1, .int a2, .ref 642] [.ref 74, .int a1, .int a2] (I, g) := by
  have hs : zSt g := hh.1
  have hc : cI I g S := hh.2.2.1
  have hok := hh.2.2.2.2.1
  have hw : lvW l Xi mX12_meet mL_meet [.ref 0, .int a1, .int a2] [.ref 0, .int a1, .int a2, .ref 642] I g (fun _ => 1) (fun k => k = true) := fun kc ks post1 post hC hx hk => w_meet hl hs hh.2.1 (by omega) hC (fun E h1 q hn => by obtain ⟨k, rfl, rfl, z⟩ := hx E h1 q hn; exact ⟨rfl, z⟩) hk
  have eL : rT (r_meet I a1 a2) = rT (q_meet S a1 a2) := by
    unfold r_meet q_meet
    simp only [eNet hc]
  cases e : rT (q_meet S a1 a2) with
  | some k => exact lvP_t hh hw (rT_kind (by simp [q_meet]) e) (Or.inl rfl) (t_meet hl (by omega) hs (eL.trans e)) (fun J g2 hr hs2 => m_meetN hl (by omega) hs2 hr e)
  | none =>
    have c := rT_none e
    obtain ⟨n1, rfl, e1⟩ := gNet hc (c _ List.mem_cons_self)
    obtain ⟨n2, rfl, e2⟩ := gNet hc (c _ (List.mem_cons_of_mem _ List.mem_cons_self))
    exact lvP_q hh hw (k_meet hl (by omega) hs hc hok e1 e2) (fun J g2 hr hs2 => m_meet hl (by omega) hs2 hr hok e1 e2)
theorem p_dear (hl : l.stackTraces = false) {n : Nat} {S : sT} (hh : lvI n (I, g) S) (hn : n ≤ 520) {a1 : Int32} : lvP l Xi n mL_dear mX13_dear [.ref 0, .int a1, .ref 642] [.ref 74, .int a1] (I, g) := by
  have hs : zSt g := hh.1
  have hc : cI I g S := hh.2.2.1
  have hok := hh.2.2.2.2.1
  have hw : lvW l Xi mX12_dear mL_dear [.ref 0, .int a1] [.ref 0, .int a1, .ref 642] I g (fun _ => 1) (fun k => k = true) := fun kc ks post1 post hC hx hk => w_dear hl hs hh.2.1 (by omega) hC (fun E h1 q hn => by obtain ⟨k, rfl, rfl, z⟩ := hx E h1 q hn; exact ⟨rfl, z⟩) hk
  have eL : rT (r_dear I a1) = rT (q_dear S a1) := by
    unfold r_dear q_dear
    simp only [eNet hc]
  cases e : rT (q_dear S a1) with
  | some k => exact lvP_t hh hw (rT_kind (by simp [q_dear]) e) (Or.inl rfl) (t_dear hl (by omega) hs (eL.trans e)) (fun J g2 hr hs2 => m_dearN hl (by omega) hs2 hr e)
  | none =>
    have c := rT_none e
    obtain ⟨n1, rfl, e1⟩ := gNet hc (c _ List.mem_cons_self)
    exact lvP_q hh hw (k_dear hl (by omega) hs hc hok e1) (fun J g2 hr hs2 => m_dear hl (by omega) hs2 hr hok e1)
theorem p_shed (hl : l.stackTraces = false) {n : Nat} {S : sT} (hh : lvI n (I, g) S) (hn : n ≤ 520) {a1 : Int32} : lvP l Xi n mL_shed mX13_shed [.ref 0, .int a1, .ref 642] [.ref 74, .int a1] (I, g) := by
  have hs : zSt g := hh.1
  have hc : cI I g S := hh.2.2.1
  have hok := hh.2.2.2.2.1
  have hw : lvW l Xi mX12_shed mL_shed [.ref 0, .int a1] [.ref 0, .int a1, .ref 642] I g (fun _ => 1) (fun k => k = true) := fun kc ks post1 post hC hx hk => w_shed hl hs hh.2.1 (by omega) hC (fun E h1 q hn => by obtain ⟨k, rfl, rfl, z⟩ := hx E h1 q hn; exact ⟨rfl, z⟩) hk
  have eL : rT (r_shed I a1) = rT (q_shed S a1) := by
    unfold r_shed q_shed
    simp only [eNet hc]
  cases e : rT (q_shed S a1) with
  | some k => exact lvP_t hh hw (rT_kind (by simp [q_shed]) e) (Or.inl rfl) (t_shed hl (by omega) hs (eL.trans e)) (fun J g2 hr hs2 => m_shedN hl (by omega) hs2 hr e)
  | none =>
    have c := rT_none e
    obtain ⟨n1, rfl, e1⟩ := gNet hc (c _ List.mem_cons_self)
    exact lvP_q hh hw (k_shed hl (by omega) hs hc hok e1) (fun J g2 hr hs2 => m_shed hl (by omega) hs2 hr hok e1)
theorem p_fits (hl : l.stackTraces = false) {n : Nat} {S : sT} (hh : lvI n (I, g) S) (hn : n ≤ 520) {a1 : Int32} : lvP l Xi n mL_fits mX13_fits [.ref 0, .int a1, .ref 642] [.ref 74, .int a1] (I, g) := by
  have hs : zSt g := hh.1
  have hc : cI I g S := hh.2.2.1
  have hok := hh.2.2.2.2.1
  have hw : lvW l Xi mX12_fits mL_fits [.ref 0, .int a1] [.ref 0, .int a1, .ref 642] I g (fun _ => 1) (fun k => k = false) := fun kc ks post1 post hC hx hk => w_fits hl hs hh.2.1 (by omega) hC (fun E h1 q hn => by obtain ⟨k, rfl, rfl, z⟩ := hx E h1 q hn; exact ⟨rfl, z⟩) hk
  have eL : rT (r_fits I a1) = rT (q_fits S a1) := by
    unfold r_fits q_fits
    simp only [eWh]
  cases e : rT (q_fits S a1) with
  | some k => exact lvP_t hh hw (rT_kind (by simp [q_fits]) e) (Or.inl rfl) (t_fits hl (by omega) hs (eL.trans e)) (fun J g2 hr hs2 => m_fitsN hl (by omega) hs2 hr e)
  | none =>
    have c := rT_none e
    obtain ⟨n1, rfl, f1, e1⟩ := gRng (lo := 0) (hi := 1) (by omega) (by omega) (c _ List.mem_cons_self)
    exact lvP_q hh hw (k_fits hl (by omega) hs hc hok e1) (fun J g2 hr hs2 => m_fits hl (by omega) hs2 hr hok e1)
theorem p_look (hl : l.stackTraces = false) {n : Nat} {S : sT} (hh : lvI n (I, g) S) (hn : n ≤ 520) {a1 : Int32} : lvP l Xi n mL_look mX13_look [.ref 0, .int a1, .ref 642] [.ref 74, .int a1] (I, g) := by
  have hs : zSt g := hh.1
  have hc : cI I g S := hh.2.2.1
  have hok := hh.2.2.2.2.1
  have hw : lvW l Xi mX12_look mL_look [.ref 0, .int a1] [.ref 0, .int a1, .ref 642] I g (fun _ => 1) (fun k => k = false) := fun kc ks post1 post hC hx hk => w_look hl hs hh.2.1 (by omega) hC (fun E h1 q hn => by obtain ⟨k, rfl, rfl, z⟩ := hx E h1 q hn; exact ⟨rfl, z⟩) hk
  have eL : rT (r_look I a1) = rT (q_look S a1) := by
    unfold r_look q_look
    simp only [eWh]
  cases e : rT (q_look S a1) with
  | some k => exact lvP_t hh hw (rT_kind (by simp [q_look]) e) (Or.inl rfl) (t_look hl (by omega) hs (eL.trans e)) (fun J g2 hr hs2 => m_lookN hl (by omega) hs2 hr e)
  | none =>
    have c := rT_none e
    obtain ⟨n1, rfl, f1, e1⟩ := gRng (lo := 0) (hi := 1) (by omega) (by omega) (c _ List.mem_cons_self)
    exact lvP_q hh hw (k_look hl (by omega) hs hc hok e1) (fun J g2 hr hs2 => m_look hl (by omega) hs2 hr hok e1)
theorem p_crowd (hl : l.stackTraces = false) {n : Nat} {S : sT} (hh : lvI n (I, g) S) (hn : n ≤ 520) {a1 : Int32} : lvP l Xi n mL_crowd mX13_crowd [.ref 0, .int a1, .ref 642] [.ref 74, .int a1] (I, g) := by
  have hs : zSt g := hh.1
  have hc : cI I g S := hh.2.2.1
  have hok := hh.2.2.2.2.1
  have hw : lvW l Xi mX12_crowd mL_crowd [.ref 0, .int a1] [.ref 0, .int a1, .ref 642] I g (fun _ => 1) (fun k => k = false) := fun kc ks post1 post hC hx hk => w_crowd hl hs hh.2.1 (by omega) hC (fun E h1 q hn => by obtain ⟨k, rfl, rfl, z⟩ := hx E h1 q hn; exact ⟨rfl, z⟩) hk
  have eL : rT (r_crowd I a1) = rT (q_crowd S a1) := by
    unfold r_crowd q_crowd
    simp only [eWh]
  cases e : rT (q_crowd S a1) with
  | some k => exact lvP_t hh hw (rT_kind (by simp [q_crowd]) e) (Or.inl rfl) (t_crowd hl (by omega) hs (eL.trans e)) (fun J g2 hr hs2 => m_crowdN hl (by omega) hs2 hr e)
  | none =>
    have c := rT_none e
    obtain ⟨n1, rfl, f1, e1⟩ := gRng (lo := 0) (hi := 1) (by omega) (by omega) (c _ List.mem_cons_self)
    exact lvP_q hh hw (k_crowd hl (by omega) hs hc hok e1) (fun J g2 hr hs2 => m_crowd hl (by omega) hs2 hr hok e1)
theorem p_tight (hl : l.stackTraces = false) {n : Nat} {S : sT} (hh : lvI n (I, g) S) (hn : n ≤ 520) {a1 : Int32} : lvP l Xi n mL_tight mX13_tight [.ref 0, .int a1, .ref 642] [.ref 74, .int a1] (I, g) := by
  have hs : zSt g := hh.1
  have hc : cI I g S := hh.2.2.1
  have hok := hh.2.2.2.2.1
  have hw : lvW l Xi mX12_tight mL_tight [.ref 0, .int a1] [.ref 0, .int a1, .ref 642] I g (fun _ => 1) (fun k => k = false) := fun kc ks post1 post hC hx hk => w_tight hl hs hh.2.1 (by omega) hC (fun E h1 q hn => by obtain ⟨k, rfl, rfl, z⟩ := hx E h1 q hn; exact ⟨rfl, z⟩) hk
  have eL : rT (r_tight I a1) = rT (q_tight S a1) := by
    unfold r_tight q_tight
    simp only [eWh]
  cases e : rT (q_tight S a1) with
  | some k => exact lvP_t hh hw (rT_kind (by simp [q_tight]) e) (Or.inl rfl) (t_tight hl (by omega) hs (eL.trans e)) (fun J g2 hr hs2 => m_tightN hl (by omega) hs2 hr e)
  | none =>
    have c := rT_none e
    obtain ⟨n1, rfl, f1, e1⟩ := gRng (lo := 0) (hi := 1) (by omega) (by omega) (c _ List.mem_cons_self)
    exact lvP_q hh hw (k_tight hl (by omega) hs hc hok e1) (fun J g2 hr hs2 => m_tight hl (by omega) hs2 hr hok e1)
theorem p_would (hl : l.stackTraces = false) {n : Nat} {S : sT} (hh : lvI n (I, g) S) (hn : n ≤ 520) {a1 a2 a3 a4 a5 a6 a7 a8 : Int32} : lvP l Xi n mL_would mX13_would [.ref 0, .int a1, .int a2, .int a3, .int a4, .int a5, .int a6, .int a7, .int a8, .ref 642] [.ref 74, .int a1, .int a2, .int a3, .int a4, .int a5, .int a6, .int a7, .int a8] (I, g) := by
  have hs : zSt g := hh.1
  have hc : cI I g S := hh.2.2.1
  have hok := hh.2.2.2.2.1
  have hw : lvW l Xi mX12_would mL_would [.ref 0, .int a1, .int a2, .int a3, .int a4, .int a5, .int a6, .int a7, .int a8] [.ref 0, .int a1, .int a2, .int a3, .int a4, .int a5, .int a6, .int a7, .int a8, .ref 642] I g (fun _ => 1) (fun k => k = false) := fun kc ks post1 post hC hx hk => w_would hl hs hh.2.1 (by omega) hC (fun E h1 q hn => by obtain ⟨k, rfl, rfl, z⟩ := hx E h1 q hn; exact ⟨rfl, z⟩) hk
  have eL : rT (r_would I a1 a2 a3 a4 a5 a6 a7 a8) = rT (q_would S a1 a2 a3 a4 a5 a6 a7 a8) := by
    unfold r_would q_would
    rfl
  cases e : rT (q_would S a1 a2 a3 a4 a5 a6 a7 a8) with
  | some k => exact lvP_t hh hw (rT_kind (by simp [q_would]) e) (Or.inl rfl) (t_would hl (by omega) hs (eL.trans e)) (fun J g2 hr hs2 => m_wouldN hl (by omega) hs2 hr e)
  | none =>
    have c := rT_none e
    obtain ⟨n1, rfl, f1, e1⟩ := gRng (lo := 0) (hi := 9999) (by omega) (by omega) (c _ List.mem_cons_self)
    obtain ⟨n2, rfl, f2, e2⟩ := gRng (lo := 0) (hi := 6) (by omega) (by omega) (c _ (List.mem_cons_of_mem _ List.mem_cons_self))
    obtain ⟨n3, rfl, f3, e3⟩ := gRng (lo := 0) (hi := 9) (by omega) (by omega) (c _ (List.mem_cons_of_mem _ (List.mem_cons_of_mem _ List.mem_cons_self)))
    obtain ⟨n4, rfl, f4, e4⟩ := gRng (lo := 0) (hi := 400) (by omega) (by omega) (c _ (List.mem_cons_of_mem _ (List.mem_cons_of_mem _ (List.mem_cons_of_mem _ List.mem_cons_self))))
    obtain ⟨n5, rfl, f5, e5⟩ := gRng (lo := 1) (hi := 3) (by omega) (by omega) (c _ (List.mem_cons_of_mem _ (List.mem_cons_of_mem _ (List.mem_cons_of_mem _ (List.mem_cons_of_mem _ List.mem_cons_self)))))
    obtain ⟨n6, rfl, f6, e6⟩ := gRng (lo := 0) (hi := 7) (by omega) (by omega) (c _ (List.mem_cons_of_mem _ (List.mem_cons_of_mem _ (List.mem_cons_of_mem _ (List.mem_cons_of_mem _ (List.mem_cons_of_mem _ List.mem_cons_self))))))
    obtain ⟨n7, rfl, f7, e7⟩ := gRng (lo := 0) (hi := 7) (by omega) (by omega) (c _ (List.mem_cons_of_mem _ (List.mem_cons_of_mem _ (List.mem_cons_of_mem _ (List.mem_cons_of_mem _ (List.mem_cons_of_mem _ (List.mem_cons_of_mem _ List.mem_cons_self)))))))
    obtain ⟨n8, rfl, f8, e8⟩ := gRng (lo := 0) (hi := 6) (by omega) (by omega) (c _ (List.mem_cons_of_mem _ (List.mem_cons_of_mem _ (List.mem_cons_of_mem _ (List.mem_cons_of_mem _ (List.mem_cons_of_mem _ (List.mem_cons_of_mem _ (List.mem_cons_of_mem _ List.mem_cons_self))))))))
    exact lvP_q hh hw (k_would hl (by omega) hs hc hok e1 e2 e3 e4 ⟨f5, e5⟩ e6 e7 e8) (fun J g2 hr hs2 => m_would hl (by omega) hs2 hr hok e1 e2 e3 e4 ⟨f5, e5⟩ e6 e7 e8)
theorem p_cost (hl : l.stackTraces = false) {n : Nat} {S : sT} (hh : lvI n (I, g) S) (hn : n ≤ 520) {a1 a2 a3 : Int32} : lvP l Xi n mL_cost mX13_cost [.ref 0, .int a1, .int a2, .int a3, .ref 642] [.ref 74, .int a1, .int a2, .int a3] (I, g) := by
  have hs : zSt g := hh.1
  have hc : cI I g S := hh.2.2.1
  have hok := hh.2.2.2.2.1
  have hw : lvW l Xi mX12_cost mL_cost [.ref 0, .int a1, .int a2, .int a3] [.ref 0, .int a1, .int a2, .int a3, .ref 642] I g (fun _ => 1) (fun k => k = true) := fun kc ks post1 post hC hx hk => w_cost hl hs hh.2.1 (by omega) hC (fun E h1 q hn => by obtain ⟨k, rfl, rfl, z⟩ := hx E h1 q hn; exact ⟨rfl, z⟩) hk
  cases hq : (qNet S.2.1 a1 && qPl S.2.1 a2 a3) with
  | false =>
    have eX : rT (r_cost I a1 a2 a3) = some true := by
      unfold r_cost
      rw [eNet hc, ePl hc]
      revert hq
      cases qNet S.2.1 a1 <;> cases qPl S.2.1 a2 a3 <;> intro hq <;> first | rfl | cases hq
    exact lvP_t hh hw rfl (Or.inl rfl) (t_cost hl (by omega) hs eX) (fun J g2 hr hs2 => m_costN hl (by omega) hs2 hr hq)
  | true =>
    obtain ⟨c1, c2⟩ := (Bool.and_eq_true _ _).mp hq
    obtain ⟨n1, rfl, e1⟩ := gNet hc c1
    obtain ⟨n2, n3, rfl, rfl, e2, e3⟩ := gPl hc c2
    exact lvP_q hh hw (k_cost hl (by omega) hs hc hok e1 e2 e3) (fun J g2 hr hs2 => m_cost hl (by omega) hs2 hr hok e1 e2 e3)
theorem p_parent (hl : l.stackTraces = false) {n : Nat} {S : sT} (hh : lvI n (I, g) S) (hn : n ≤ 520) {a1 a2 a3 : Int32} : lvP l Xi n mL_parent mX13_parent [.ref 0, .int a1, .int a2, .int a3, .ref 642] [.ref 74, .int a1, .int a2, .int a3] (I, g) := by
  have hs : zSt g := hh.1
  have hc : cI I g S := hh.2.2.1
  have hok := hh.2.2.2.2.1
  have hw : lvW l Xi mX12_parent mL_parent [.ref 0, .int a1, .int a2, .int a3] [.ref 0, .int a1, .int a2, .int a3, .ref 642] I g (fun _ => 1) (fun k => k = true) := fun kc ks post1 post hC hx hk => w_parent hl hs hh.2.1 (by omega) hC (fun E h1 q hn => by obtain ⟨k, rfl, rfl, z⟩ := hx E h1 q hn; exact ⟨rfl, z⟩) hk
  cases hq : (qNet S.2.1 a1 && qPl S.2.1 a2 a3) with
  | false =>
    have eX : rT (r_parent I a1 a2 a3) = some true := by
      unfold r_parent
      rw [eNet hc, ePl hc]
      revert hq
      cases qNet S.2.1 a1 <;> cases qPl S.2.1 a2 a3 <;> intro hq <;> first | rfl | cases hq
    exact lvP_t hh hw rfl (Or.inl rfl) (t_parent hl (by omega) hs eX) (fun J g2 hr hs2 => m_parentN hl (by omega) hs2 hr hq)
  | true =>
    obtain ⟨c1, c2⟩ := (Bool.and_eq_true _ _).mp hq
    obtain ⟨n1, rfl, e1⟩ := gNet hc c1
    obtain ⟨n2, n3, rfl, rfl, e2, e3⟩ := gPl hc c2
    exact lvP_q hh hw (k_parent hl (by omega) hs hc hok e1 e2 e3) (fun J g2 hr hs2 => m_parent hl (by omega) hs2 hr hok e1 e2 e3)
theorem p_dist (hl : l.stackTraces = false) {n : Nat} {S : sT} (hh : lvI n (I, g) S) (hn : n ≤ 520) {a1 a2 a3 : Int32} : lvP l Xi n mL_dist mX13_dist [.ref 0, .int a1, .int a2, .int a3, .ref 642] [.ref 74, .int a1, .int a2, .int a3] (I, g) := by
  have hs : zSt g := hh.1
  have hc : cI I g S := hh.2.2.1
  have hok := hh.2.2.2.2.1
  have hw : lvW l Xi mX12_dist mL_dist [.ref 0, .int a1, .int a2, .int a3] [.ref 0, .int a1, .int a2, .int a3, .ref 642] I g (fun _ => 1) (fun k => k = true) := fun kc ks post1 post hC hx hk => w_dist hl hs hh.2.1 (by omega) hC (fun E h1 q hn => by obtain ⟨k, rfl, rfl, z⟩ := hx E h1 q hn; exact ⟨rfl, z⟩) hk
  cases hq : (qNet S.2.1 a1 && qPl S.2.1 a2 a3) with
  | false =>
    have eX : rT (r_dist I a1 a2 a3) = some true := by
      unfold r_dist
      rw [eNet hc, ePl hc]
      revert hq
      cases qNet S.2.1 a1 <;> cases qPl S.2.1 a2 a3 <;> intro hq <;> first | rfl | cases hq
    exact lvP_t hh hw rfl (Or.inl rfl) (t_dist hl (by omega) hs eX) (fun J g2 hr hs2 => m_distN hl (by omega) hs2 hr hq)
  | true =>
    obtain ⟨c1, c2⟩ := (Bool.and_eq_true _ _).mp hq
    obtain ⟨n1, rfl, e1⟩ := gNet hc c1
    obtain ⟨n2, n3, rfl, rfl, e2, e3⟩ := gPl hc c2
    exact lvP_q hh hw (k_dist hl (by omega) hs hc hok e1 e2 e3) (fun J g2 hr hs2 => m_dist hl (by omega) hs2 hr hok e1 e2 e3)
theorem p_spared (hl : l.stackTraces = false) {n : Nat} {S : sT} (hh : lvI n (I, g) S) (hn : n ≤ 520) {a1 a2 a3 : Int32} : lvP l Xi n mL_spared mX13_spared [.ref 0, .int a1, .int a2, .int a3, .ref 642] [.ref 74, .int a1, .int a2, .int a3] (I, g) := by
  have hs : zSt g := hh.1
  have hc : cI I g S := hh.2.2.1
  have hok := hh.2.2.2.2.1
  have hw : lvW l Xi mX12_spared mL_spared [.ref 0, .int a1, .int a2, .int a3] [.ref 0, .int a1, .int a2, .int a3, .ref 642] I g (fun _ => 1) (fun k => k = true) := fun kc ks post1 post hC hx hk => w_spared hl hs hh.2.1 (by omega) hC (fun E h1 q hn => by obtain ⟨k, rfl, rfl, z⟩ := hx E h1 q hn; exact ⟨rfl, z⟩) hk
  cases hq : (qNet S.2.1 a1 && qPl S.2.1 a2 a3) with
  | false =>
    have eX : rT (r_spared I a1 a2 a3) = some true := by
      unfold r_spared
      rw [eNet hc, ePl hc]
      revert hq
      cases qNet S.2.1 a1 <;> cases qPl S.2.1 a2 a3 <;> intro hq <;> first | rfl | cases hq
    exact lvP_t hh hw rfl (Or.inl rfl) (t_spared hl (by omega) hs eX) (fun J g2 hr hs2 => m_sparedN hl (by omega) hs2 hr hq)
  | true =>
    obtain ⟨c1, c2⟩ := (Bool.and_eq_true _ _).mp hq
    obtain ⟨n1, rfl, e1⟩ := gNet hc c1
    obtain ⟨n2, n3, rfl, rfl, e2, e3⟩ := gPl hc c2
    exact lvP_q hh hw (k_spared hl (by omega) hs hc hok e1 e2 e3) (fun J g2 hr hs2 => m_spared hl (by omega) hs2 hr hok e1 e2 e3)
theorem p_season (hl : l.stackTraces = false) {n : Nat} {S : sT} (hh : lvI n (I, g) S) (hn : n ≤ 520) {a1 a2 a3 a4 : Int32} : lvP l Xi n mL_season mX13_season [.ref 0, .int a1, .int a2, .int a3, .int a4, .ref 642] [.ref 74, .int a1, .int a2, .int a3, .int a4] (I, g) := by
  have hs : zSt g := hh.1
  have hc : cI I g S := hh.2.2.1
  have hok := hh.2.2.2.2.1
  have hw : lvW l Xi mX12_season mL_season [.ref 0, .int a1, .int a2, .int a3, .int a4] [.ref 0, .int a1, .int a2, .int a3, .int a4, .ref 642] I g (fun _ => 1) (fun k => k = false) := fun kc ks post1 post hC hx hk => w_season hl hs hh.2.1 (by omega) hC (fun E h1 q hn => by obtain ⟨k, rfl, rfl, z⟩ := hx E h1 q hn; exact ⟨rfl, z⟩) hk
  have eL : rT (r_season I a1 a2 a3 a4) = rT (q_season S a1 a2 a3 a4) := by
    unfold r_season q_season
    rw [rT_and]; rfl
  cases e : rT (q_season S a1 a2 a3 a4) with
  | some k => exact lvP_t hh hw (rT_kind (by simp [q_season]) e) (Or.inl rfl) (t_season hl (by omega) hs (eL.trans e)) (fun J g2 hr hs2 => m_seasonN hl (by omega) hs2 hr e)
  | none =>
    have c := rT_none e
    obtain ⟨c1, c2⟩ := (Bool.and_eq_true _ _).mp (c _ List.mem_cons_self)
    obtain ⟨n2, rfl, f2, e2⟩ := gRng (lo := 1) (hi := 40) (by omega) (by omega) c1
    obtain ⟨n3, rfl, f3, e3⟩ := gRng (lo := 0) (hi := 16) (by omega) (by omega) c2
    obtain ⟨n4, rfl, f4, e4⟩ := gRng (lo := 0) (hi := 3) (by omega) (by omega) (c _ (List.mem_cons_of_mem _ List.mem_cons_self))
    exact lvP_q hh hw (k_season hl (by omega) hs hc hok f2 e2 e3 e4) (fun J g2 hr hs2 => m_season hl (by omega) hs2 hr hok f2 e2 e3 e4)
theorem p_span (hl : l.stackTraces = false) {n : Nat} {S : sT} (hh : lvI n (I, g) S) (hn : n ≤ 520) {a1 a2 a3 a4 a5 a6 : Int32} : lvP l Xi n mL_span mX13_span [.ref 0, .int a1, .int a2, .int a3, .int a4, .int a5, .int a6, .ref 642] [.ref 74, .int a1, .int a2, .int a3, .int a4, .int a5, .int a6] (I, g) := by
  have hs : zSt g := hh.1
  have hc : cI I g S := hh.2.2.1
  have hok := hh.2.2.2.2.1
  have hw : lvW l Xi mX12_span mL_span [.ref 0, .int a1, .int a2, .int a3, .int a4, .int a5, .int a6] [.ref 0, .int a1, .int a2, .int a3, .int a4, .int a5, .int a6, .ref 642] I g (fun k => if k then 1 else 2) (fun _ => True) := fun kc ks post1 post hC hx hk => w_span hl hs hh.2.1 (by omega) hC (fun E h1 q hn => by obtain ⟨k, -, rfl, z⟩ := hx E h1 q hn; cases k; exact Or.inr ⟨rfl, z⟩; exact Or.inl ⟨rfl, z⟩) hk
  have eL : rT (r_span I a1 a2 a3 a4 a5 a6) = rT (q_span S a1 a2 a3 a4 a5 a6) := by
    unfold r_span q_span
    rw [eNet hc]
    rw [eWh]
    generalize qNet S.2.1 a6 = c1
    generalize nRange a2 (nI 1) (nI 5) = c2
    unfold qSea
    generalize nRange a3 (nI 1) (nI 40) = c3
    generalize nRange a4 (nI 0) (nI 16) = c4
    generalize nRange a5 (nI 0) (nI 2) = c5
    cases c1 <;> cases c2 <;> cases c3 <;> cases c4 <;> rfl
  cases e : rT (q_span S a1 a2 a3 a4 a5 a6) with
  | some k => exact lvP_t hh hw trivial (by cases k; exact Or.inr rfl; exact Or.inl rfl) (t_span hl (by omega) hs (eL.trans e)) (fun J g2 hr hs2 => m_spanN hl (by omega) hs2 hr e)
  | none =>
    have c := rT_none e
    obtain ⟨n6, rfl, e6⟩ := gNet hc (c _ List.mem_cons_self)
    obtain ⟨n2, rfl, f2, e2⟩ := gRng (lo := 1) (hi := 5) (by omega) (by omega) (c _ (List.mem_cons_of_mem _ List.mem_cons_self))
    obtain ⟨c1, c2⟩ := (Bool.and_eq_true _ _).mp (c _ (List.mem_cons_of_mem _ (List.mem_cons_of_mem _ List.mem_cons_self)))
    obtain ⟨n3, rfl, f3, e3⟩ := gRng (lo := 1) (hi := 40) (by omega) (by omega) c1
    obtain ⟨n4, rfl, f4, e4⟩ := gRng (lo := 0) (hi := 16) (by omega) (by omega) c2
    obtain ⟨n5, rfl, f5, e5⟩ := gRng (lo := 0) (hi := 2) (by omega) (by omega) (c _ (List.mem_cons_of_mem _ (List.mem_cons_of_mem _ (List.mem_cons_of_mem _ List.mem_cons_self))))
    exact lvP_q hh hw (k_span hl (by omega) hs hc hok f2 e2 f3 e3 e4 e5 e6) (fun J g2 hr hs2 => m_span hl (by omega) hs2 hr hok f2 e2 f3 e3 e4 e5 e6)
theorem p_board (hl : l.stackTraces = false) {n : Nat} {S : sT} (hh : lvI n (I, g) S) (hn : n ≤ 520) {a1 : Int32} : lvP l Xi n mL_board mX13_board [.ref 0, .int a1, .ref 642] [.ref 74, .int a1] (I, g) := by
  have hs : zSt g := hh.1
  have hc : cI I g S := hh.2.2.1
  have hok := hh.2.2.2.2.1
  have hw : lvW l Xi mX12_board mL_board [.ref 0, .int a1] [.ref 0, .int a1, .ref 642] I g (fun _ => 1) (fun k => k = false) := fun kc ks post1 post hC hx hk => w_board hl hs hh.2.1 (by omega) hC (fun E h1 q hn => by obtain ⟨k, rfl, rfl, z⟩ := hx E h1 q hn; exact ⟨rfl, z⟩) hk
  cases hq : (decide (¬ a1 < nI 0 ∧ a1 ≤ nI S.1.1) && decide (a1 ≤ nI 600)) with
  | false =>
    have eX : rT (r_board I a1) = some false := by
      unfold r_board
      rw [eLen hc, hq]; rfl
    have eB : decide (¬ a1 < nI 0 ∧ a1 ≤ nI S.1.1) = false := by
      cases hz : decide (¬ a1 < nI 0 ∧ a1 ≤ nI S.1.1) with
      | false => rfl
      | true =>
        rw [hz, Bool.true_and] at hq
        have h6 := hc.1.2.1
        exact absurd (Int32.le_trans (of_decide_eq_true hz).2 ((nI_leI (a := S.1.1) (b := 600) (by omega) (by omega)).mpr h6)) (of_decide_eq_false hq)
    exact lvP_t hh hw rfl (Or.inl rfl) (t_board hl (by omega) hs eX) (fun J g2 hr hs2 => m_boardN hl (by omega) hs2 hr eB)
  | true =>
    obtain ⟨L, rfl, hL, hL2⟩ := gLen hc (by omega) hq
    have hB : g.1 + 10 < zB := by
      have h7 : g.1 ≤ 643 + 6 * n := hh.2.2.2.2.2.2
      unfold zB; omega
    have h6 : 643 ≤ g.1 := hh.2.2.2.2.2.1
    refine lvP_s (kc := 0) (ks := 0) (Q := fun v J g' => bdQ S L g' I v J) hh hw (by omega) (by omega) (zC_imp (k_board hl (by omega) hs hc hL) (fun r h' z => ?_)) (fun v J g' g2 q hr hs2 => ?_)
    · obtain ⟨v, J, z1, z2, z3⟩ := z
      exact ⟨v, J, g, z1, z2, gE_rfl, z3.1, z3⟩
    · refine zC_imp (m_board hl (by omega) hs2 hr hL) (fun r h' z => ?_)
      obtain ⟨b, K, z1, z2, z3, z4, z⟩ := z
      obtain ⟨q0, q⟩ := q
      refine ⟨b, K, z1, z2, ?_⟩
      cases e : pBoard S.1.2.1 L 61 0 rb0 0 with
      | inl p => simp only [e] at q z; exact ⟨z.1.trans q.1.symm, z3, z4, _, cI_rO q.2 z4, z.2, okS_flt hok⟩
      | inr p => simp only [e] at q z; obtain ⟨q1, q2, lim, crt, q3, q4⟩ := q; exact ⟨z.1.trans q1.symm, z3, z4, _, cI_rO q4 z4, z.2 lim crt q3, bdS_ok q2⟩
theorem p_law (hl : l.stackTraces = false) {n : Nat} {S : sT} (hh : lvI n (I, g) S) (hn : n ≤ 520) {a1 : Int32} : lvP l Xi n mL_law mX13_law [.ref 0, .int a1, .ref 642] [.ref 74, .int a1] (I, g) := by
  have hs : zSt g := hh.1
  have hc : cI I g S := hh.2.2.1
  have hok := hh.2.2.2.2.1
  have hw : lvW l Xi mX12_law mL_law [.ref 0, .int a1] [.ref 0, .int a1, .ref 642] I g (fun _ => 1) (fun k => k = false) := fun kc ks post1 post hC hx hk => w_law hl hs hh.2.1 (by omega) hC (fun E h1 q hn => by obtain ⟨k, rfl, rfl, z⟩ := hx E h1 q hn; exact ⟨rfl, z⟩) hk
  cases hq : (decide (¬ a1 < nI 0 ∧ a1 ≤ nI S.1.1) && decide (a1 ≤ nI 150)) with
  | false =>
    have eX : rT (r_law I a1) = some false := by
      unfold r_law
      rw [eLen hc, hq]; rfl
    exact lvP_t hh hw rfl (Or.inl rfl) (t_law hl (by omega) hs eX) (fun J g2 hr hs2 => m_lawN hl (by omega) hs2 hr hq)
  | true =>
    obtain ⟨L, rfl, hL, hL2⟩ := gLen hc (by omega) hq
    have hB : g.1 + 10 < zB := by
      have h7 : g.1 ≤ 643 + 6 * n := hh.2.2.2.2.2.2
      unfold zB; omega
    have h6 : 643 ≤ g.1 := hh.2.2.2.2.2.1
    refine lvP_s (kc := 0) (ks := 0) (Q := fun v J g' => lawQ S L g' I v J) hh hw (by omega) (by omega) (zC_imp (k_law hl (by omega) hs hc hL hL2) (fun r h' z => ?_)) (fun v J g' g2 q hr hs2 => ?_)
    · obtain ⟨v, J, z1, z2, z3⟩ := z
      exact ⟨v, J, g, z1, z2, gE_rfl, z3.1, z3⟩
    · refine zC_imp (m_law hl (by omega) hs2 hr hL hL2) (fun r h' z => ?_)
      obtain ⟨b, K, z1, z2, z3, z4, z⟩ := z
      obtain ⟨q0, q⟩ := q
      refine ⟨b, K, z1, z2, ?_⟩
      cases e : pLaw S.1.2.1 L with
      | inl p => simp only [e] at q z; exact ⟨z.1.trans q.1.symm, z3, z4, _, cI_rO q.2 z4, z.2, okS_flt hok⟩
      | inr p => simp only [e] at q z; exact ⟨z.1.trans q.1.symm, z3, z4, _, cI_rO q.2 z4, z.2, okS_lw hok⟩
theorem p_book (hl : l.stackTraces = false) {n : Nat} {S : sT} (hh : lvI n (I, g) S) (hn : n ≤ 520) {a1 : Int32} : lvP l Xi n mL_book mX13_book [.ref 0, .int a1, .ref 642] [.ref 74, .int a1] (I, g) := by
  have hs : zSt g := hh.1
  have hc : cI I g S := hh.2.2.1
  have hok := hh.2.2.2.2.1
  have hw : lvW l Xi mX12_book mL_book [.ref 0, .int a1] [.ref 0, .int a1, .ref 642] I g (fun _ => 1) (fun k => k = false) := fun kc ks post1 post hC hx hk => w_book hl hs hh.2.1 (by omega) hC (fun E h1 q hn => by obtain ⟨k, rfl, rfl, z⟩ := hx E h1 q hn; exact ⟨rfl, z⟩) hk
  cases hq : (decide (¬ a1 < nI 0 ∧ a1 ≤ nI S.1.1) && decide (a1 ≤ nI 60)) with
  | false =>
    have eX : rT (r_book I a1) = some false := by
      unfold r_book
      rw [eLen hc, hq]; rfl
    exact lvP_t hh hw rfl (Or.inl rfl) (t_book hl (by omega) hs eX) (fun J g2 hr hs2 => m_bookN hl (by omega) hs2 hr hq)
  | true =>
    obtain ⟨L, rfl, hL, hL2⟩ := gLen hc (by omega) hq
    have hB : g.1 + 10 < zB := by
      have h7 : g.1 ≤ 643 + 6 * n := hh.2.2.2.2.2.2
      unfold zB; omega
    have h6 : 643 ≤ g.1 := hh.2.2.2.2.2.1
    refine lvP_s (kc := 0) (ks := 0) (Q := fun v J g' => bokQ S L g' I v J) hh hw (by omega) (by omega) (zC_imp (k_book hl (by omega) hs hc hL hL2) (fun r h' z => ?_)) (fun v J g' g2 q hr hs2 => ?_)
    · obtain ⟨v, J, z1, z2, z3⟩ := z
      exact ⟨v, J, g, z1, z2, gE_rfl, z3.1, z3⟩
    · refine zC_imp (m_book hl (by omega) hs2 hr hL hL2) (fun r h' z => ?_)
      obtain ⟨b, K, z1, z2, z3, z4, z⟩ := z
      obtain ⟨q0, q⟩ := q
      refine ⟨b, K, z1, z2, ?_⟩
      cases e : pBook S.1.2.1 L (bC S.2.1) (bR S.2.1) 9 [] 0 with
      | inl p => simp only [e] at q z; exact ⟨z.1.trans q.1.symm, z3, z4, _, cI_rO q.2 z4, z.2, okS_flt hok⟩
      | inr p => simp only [e] at q z; exact ⟨z.1.trans q.1.symm, z3, z4, _, cI_rO q.2 z4, z.2, okS_bk hok⟩
theorem p_work (hl : l.stackTraces = false) {n : Nat} {S : sT} (hh : lvI n (I, g) S) (hn : n ≤ 520) {a1 : Int32} : lvP l Xi n mL_work mX13_work [.ref 0, .int a1, .ref 642] [.ref 74, .int a1] (I, g) := by
  have hs : zSt g := hh.1
  have hc : cI I g S := hh.2.2.1
  have hok := hh.2.2.2.2.1
  have hw : lvW l Xi mX12_work mL_work [.ref 0, .int a1] [.ref 0, .int a1, .ref 642] I g (fun _ => 1) (fun k => k = false) := fun kc ks post1 post hC hx hk => w_work hl hs hh.2.1 (by omega) hC (fun E h1 q hn => by obtain ⟨k, rfl, rfl, z⟩ := hx E h1 q hn; exact ⟨rfl, z⟩) hk
  cases hq : (decide (¬ a1 < nI 0 ∧ a1 ≤ nI S.1.1) && decide (a1 ≤ nI 150)) with
  | false =>
    have eX : rT (r_work I a1) = some false := by
      unfold r_work
      rw [eLen hc, hq]; rfl
    exact lvP_t hh hw rfl (Or.inl rfl) (t_work hl (by omega) hs eX) (fun J g2 hr hs2 => m_workN hl (by omega) hs2 hr hq)
  | true =>
    obtain ⟨L, rfl, hL, hL2⟩ := gLen hc (by omega) hq
    have hB : g.1 + 10 < zB := by
      have h7 : g.1 ≤ 643 + 6 * n := hh.2.2.2.2.2.2
      unfold zB; omega
    have h6 : 643 ≤ g.1 := hh.2.2.2.2.2.1
    refine lvP_s (kc := 6) (ks := 588) (Q := fun v J g' => wrkQ S L I v J g') hh hw (by omega) (by omega) (zC_imp (k_work hl (by omega) hs hc hok hL hL2 hB h6) (fun r h' z => ?_)) (fun v J g' g2 q hr hs2 => ?_)
    · obtain ⟨v, J, g', z1, z2, z3, z4⟩ := z
      exact ⟨v, J, g', z1, z2, z3, z4.1, z4⟩
    · refine zC_imp (m_work hl (by omega) hs2 hr hok hL hL2) (fun r h' z => ?_)
      obtain ⟨b, K, z1, z2, z3, z4, z⟩ := z
      obtain ⟨q0, q⟩ := q
      refine ⟨b, K, z1, z2, ?_⟩
      by_cases w : 16 ≤ S.2.2.2.2.1.1
      · rw [if_pos w] at q z
        exact ⟨z.1.trans q.1.symm, z3, z4, _, cI_rO q.2 z4, z.2, hok⟩
      · rw [if_neg w] at q z
        cases e : pW S.1.2.1 L (bN S.2.1) (bC S.2.1) (bR S.2.1) 400 0 0 0 0 with
        | inl p => simp only [e] at q z; exact ⟨z.1.trans q.1.symm, z3, z4, _, cI_rO q.2 z4, z.2, okS_flt hok⟩
        | inr p => simp only [e] at q z; exact ⟨z.1.trans q.1.symm, z3, z4, _, cI_rO q.2.1 z4, z.2, q.2.2⟩
theorem p_fault (hl : l.stackTraces = false) {n : Nat} {S : sT} (hh : lvI n (I, g) S) (hn : n ≤ 520) : lvD l Xi n mX12_fault mX13_fault [.ref 0] [.ref 74] (I, g) := by
  have hs : zSt g := hh.1
  have hc : cI I g S := hh.2.2.1
  have hok := hh.2.2.2.2.1
  have hB : g.1 + 10 < zB := by
    have h7 : g.1 ≤ 643 + 6 * n := hh.2.2.2.2.2.2
    unfold zB; omega
  have h6 : 643 ≤ g.1 := hh.2.2.2.2.2.1
  exact lvD_q hh (k_fault hl (by omega) hs hc) (fun J g2 hr hs2 => m_fault hl (by omega) hs2 hr)
theorem p_status (hl : l.stackTraces = false) {n : Nat} {S : sT} (hh : lvI n (I, g) S) (hn : n ≤ 520) {a1 : Int32} : lvD l Xi n mX12_status mX13_status [.ref 0, .int a1] [.ref 74, .int a1] (I, g) := by
  have hs : zSt g := hh.1
  have hc : cI I g S := hh.2.2.1
  have hok := hh.2.2.2.2.1
  have hB : g.1 + 10 < zB := by
    have h7 : g.1 ≤ 643 + 6 * n := hh.2.2.2.2.2.2
    unfold zB; omega
  have h6 : 643 ≤ g.1 := hh.2.2.2.2.2.1
  exact lvD_q hh (k_status hl (by omega) hs hc) (fun J g2 hr hs2 => m_status hl (by omega) hs2 hr)
theorem p_count (hl : l.stackTraces = false) {n : Nat} {S : sT} (hh : lvI n (I, g) S) (hn : n ≤ 520) {a1 : Int32} : lvD l Xi n mX12_count mX13_count [.ref 0, .int a1] [.ref 74, .int a1] (I, g) := by
  have hs : zSt g := hh.1
  have hc : cI I g S := hh.2.2.1
  have hok := hh.2.2.2.2.1
  have hB : g.1 + 10 < zB := by
    have h7 : g.1 ≤ 643 + 6 * n := hh.2.2.2.2.2.2
    unfold zB; omega
  have h6 : 643 ≤ g.1 := hh.2.2.2.2.2.1
  exact lvD_q hh (k_count hl (by omega) hs hc) (fun J g2 hr hs2 => m_count hl (by omega) hs2 hr)
theorem p_settled (hl : l.stackTraces = false) {n : Nat} {S : sT} (hh : lvI n (I, g) S) (hn : n ≤ 520) : lvD l Xi n mX12_settled mX13_settled [.ref 0] [.ref 74] (I, g) := by
  have hs : zSt g := hh.1
  have hc : cI I g S := hh.2.2.1
  have hok := hh.2.2.2.2.1
  have hB : g.1 + 10 < zB := by
    have h7 : g.1 ≤ 643 + 6 * n := hh.2.2.2.2.2.2
    unfold zB; omega
  have h6 : 643 ≤ g.1 := hh.2.2.2.2.2.1
  exact lvD_q hh (k_settled hl (by omega) hs hc hok) (fun J g2 hr hs2 => m_settled hl (by omega) hs2 hr hok)
theorem p_feed (hl : l.stackTraces = false) {n : Nat} {S : sT} (hh : lvI n (I, g) S) (hn : n ≤ 520) {a1 a2 a3 a4 a5 : Int32} : lvD l Xi n mX12_feed mX13_feed [.ref 0, .int a1, .int a2, .int a3, .int a4, .int a5] [.ref 74, .int a1, .int a2, .int a3, .int a4, .int a5] (I, g) := by
  have hs : zSt g := hh.1
  have hc : cI I g S := hh.2.2.1
  have hok := hh.2.2.2.2.1
  have hB : g.1 + 10 < zB := by
    have h7 : g.1 ≤ 643 + 6 * n := hh.2.2.2.2.2.2
    unfold zB; omega
  have h6 : 643 ≤ g.1 := hh.2.2.2.2.2.1
  refine lvD_s (kc := 0) (ks := 0) (Q := fun v J g' => v = feedV S ∧ cI J g' (feedS S a1 a2 a3 a4 a5)) hh (by omega) (by omega) (zC_imp (k_feed hl (by omega) hs hc) (fun r h' z => ?_)) (fun v J g' q hr hs2 => ?_)
  · obtain ⟨v, J, z1, z2, z3, z4, z5⟩ := z
    exact ⟨v, J, g, z1, z2, gE_rfl, z5, z3, z4⟩
  · refine zC_imp (m_feed hl (by omega) hs2 hr) (fun r h' z => ?_)
    obtain ⟨b, K, z1, z2, z3, z4, z5, z6⟩ := z
    refine ⟨b, K, z1, z2, z3.trans q.1.symm, z5, _, cI_rO q.2 z5, z6, ?_⟩
    unfold feedS
    split
    · exact hok
    · exact hok
theorem p_undo (hl : l.stackTraces = false) {n : Nat} {S : sT} (hh : lvI n (I, g) S) (hn : n ≤ 520) : lvD l Xi n mX12_undo mX13_undo [.ref 0] [.ref 74] (I, g) := by
  have hs : zSt g := hh.1
  have hc : cI I g S := hh.2.2.1
  have hok := hh.2.2.2.2.1
  have hB : g.1 + 10 < zB := by
    have h7 : g.1 ≤ 643 + 6 * n := hh.2.2.2.2.2.2
    unfold zB; omega
  have h6 : 643 ≤ g.1 := hh.2.2.2.2.2.1
  refine lvD_s (kc := 0) (ks := 0) (Q := fun v J g' => undQ S g' v J) hh (by omega) (by omega) (zC_imp (k_undo hl (by omega) hs hc) (fun r h' z => ?_)) (fun v J g' q hr hs2 => ?_)
  · obtain ⟨v, J, z1, z2, z3, z4⟩ := z
    exact ⟨v, J, g, z1, z2, gE_rfl, z3, z4⟩
  · refine zC_imp (m_undo hl (by omega) hs2 hr) (fun r h' z => ?_)
    obtain ⟨b, K, z1, z2, z3, z4, z⟩ := z
    unfold undQ at q
    refine ⟨b, K, z1, z2, ?_⟩
    by_cases w : S.2.2.2.2.1.1 = 0
    · rw [if_pos w] at q z
      exact ⟨z.1.trans q.1.symm, z4, _, cI_rO q.2 z4, z.2, hok⟩
    · rw [if_neg w] at q z
      exact ⟨z.1.trans q.1.symm, z4, _, cI_rO q.2 z4, z.2, okS_und hok w⟩
theorem p_image (hl : l.stackTraces = false) {n : Nat} {S : sT} (hh : lvI n (I, g) S) (hn : n ≤ 520) : lvD l Xi n mX12_image mX13_image [.ref 0] [.ref 74] (I, g) := by
  have hs : zSt g := hh.1
  have hc : cI I g S := hh.2.2.1
  have hok := hh.2.2.2.2.1
  have hB : g.1 + 10 < zB := by
    have h7 : g.1 ≤ 643 + 6 * n := hh.2.2.2.2.2.2
    unfold zB; omega
  have h6 : 643 ≤ g.1 := hh.2.2.2.2.2.1
  refine lvD_s (kc := 6) (ks := 588) (Q := fun v J g' => imgQ S v J g') hh (by omega) (by omega) (zC_imp (k_image hl (by omega) hs hc hB h6) (fun r h' z => ?_)) (fun v J g' q hr hs2 => ?_)
  · obtain ⟨v, J, g', z1, z2, z3, z4, z5⟩ := z
    exact ⟨v, J, g', z1, z2, z3, z4, z5⟩
  · refine zC_imp (m_image hl (by omega) hs2 hr) (fun r h' z => ?_)
    obtain ⟨b, K, z1, z2, z3, z4, z⟩ := z
    unfold imgQ at q
    refine ⟨b, K, z1, z2, ?_⟩
    by_cases w : 3 ≤ S.2.2.2.2.2.1.1
    · rw [if_pos w] at q z
      exact ⟨z.1.trans q.1.symm, z4, _, cI_rO q.2 z4, z.2, hok⟩
    · rw [if_neg w] at q z
      exact ⟨z.1.trans q.1.symm, z4, _, cI_rO q.2 z4, z.2, okS_img hok⟩
theorem p_restore (hl : l.stackTraces = false) {n : Nat} {S : sT} (hh : lvI n (I, g) S) (hn : n ≤ 520) : lvD l Xi n mX12_restore mX13_restore [.ref 0] [.ref 74] (I, g) := by
  have hs : zSt g := hh.1
  have hc : cI I g S := hh.2.2.1
  have hok := hh.2.2.2.2.1
  have hB : g.1 + 10 < zB := by
    have h7 : g.1 ≤ 643 + 6 * n := hh.2.2.2.2.2.2
    unfold zB; omega
  have h6 : 643 ≤ g.1 := hh.2.2.2.2.2.1
  refine lvD_s (kc := 0) (ks := 0) (Q := fun v J g' => rstQ S v J g') hh (by omega) (by omega) (zC_imp (k_restore hl (by omega) hs hc) (fun r h' z => ?_)) (fun v J g' q hr hs2 => ?_)
  · obtain ⟨v, J, g', z1, z2, z3, z4, z5⟩ := z
    exact ⟨v, J, g', z1, z2, z3, z4, z5⟩
  · refine zC_imp (m_restore hl (by omega) hs2 hr) (fun r h' z => ?_)
    obtain ⟨b, K, z1, z2, z3, z4, z⟩ := z
    unfold rstQ at q
    refine ⟨b, K, z1, z2, ?_⟩
    by_cases w : S.2.2.2.2.2.1.1 = 0
    · rw [if_pos w] at q z
      exact ⟨z.1.trans q.1.symm, z4, _, cI_rO q.2 z4, z.2, hok⟩
    · rw [if_neg w] at q z
      exact ⟨z.1.trans q.1.symm, z4, _, cI_rO q.2 z4, z.2, okS_rst hok w⟩
end ZPairs
