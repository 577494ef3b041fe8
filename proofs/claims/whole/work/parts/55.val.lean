/-! each call keeps the two together -/
theorem agC.kp {S S' : rf_S} {L : List Nat} (k : kp L S S') (h : ∀ q ∈ L, q < 13) : agC S S' := by
  have g : ∀ q, 13 ≤ q → S'.1 q = S.1 q := fun q hq => k.1 q (fun z => by have := h q z; omega)
  unfold agC
  rw [k.2]
  exact ⟨g _ (by omega), g _ (by omega), g _ (by omega), g _ (by omega), g _ (by omega), g _ (by omega), g _ (by omega), g _ (by omega), g _ (by omega), g _ (by omega), g _ (by omega), g _ (by omega), g _ (by omega), g _ (by omega), g _ (by omega), g _ (by omega), g _ (by omega), rfl, rfl, rfl, rfl⟩
section VA
variable {h : mj_H} {S : rf_S} {nx T nb dr n nc nd : Nat}
abbrev vK (M : mj_M) (as : List Value) (h : mj_H) (nx mc ms T : Nat) (P : Int32 × rf_S) : Prop := mj_K M (.ref 0 :: as) h nx mc ms (fun r h' nx' => r = some (.int P.1) ∧ inv h' P.2 nx' (T + 200))
theorem ins_ag (S : rf_S) (op a b c : Int32) : agP S (sp_instruction S op a b c).2 ∧ agC S (sp_instruction S op a b c).2 ∧ (sp_instruction S op a b c).2.1 5 = S.1 5 := by
  unfold sp_instruction
  split
  · exact ⟨⟨rfl, rfl, rfl, rfl, rfl, rfl⟩, ⟨rfl, rfl, rfl, rfl, rfl, rfl, rfl, rfl, rfl, rfl, rfl, rfl, rfl, rfl, rfl, rfl, rfl, rfl, rfl, rfl, rfl⟩, rfl⟩
  · exact ⟨agP.rf S, agC.rf S, rfl⟩
theorem V_instruction (I : invX h S nx T nb dr n nc nd) (op a b c : Int32) : vK me_Top_instruction [.int op, .int a, .int b, .int c] h nx 1 4 T (sp_instruction S op a b c) := by
  refine mj_K.mono (K_Top_instruction h S nx nb dr op a b c I.2.1 I.2.2.1) ?_
  rintro r h' nx' ⟨hr, hx, f, w, nb', dr', hi⟩
  obtain ⟨p, cc, e5⟩ := ins_ag S op a b c
  refine ⟨hr, (I.b hx.1 ?_ f w hi p cc).mono (by omega)⟩
  have e := hi.2.1
  rw [e5, I.2.1.2.1] at e
  have h1 := hi.1
  have h2 := I.2.1.1
  have := (nI_eq (by omega) (by omega)).mp e
  omega
theorem bat_ag (S : rf_S) (c0 c1 c2 c3 r : Int32) : agP S (sp_batch S c0 c1 c2 c3 r).2 ∧ agC S (sp_batch S c0 c1 c2 c3 r).2 ∧ ((sp_batch S c0 c1 c2 c3 r).2.1 5 0 = S.1 5 0 ∨ (sp_batch S c0 c1 c2 c3 r).2.1 5 0 = S.1 5 0 + 1) := by
  unfold sp_batch
  split
  · have kk := sp_cpy_kp S (S.1 5 0).toNatClampNeg (S.1 4 0).toNatClampNeg
    refine ⟨?_, ?_, Or.inr ?_⟩
    · exact agP.tr (agP.kp kk (by decide)) ⟨rfl, rfl, rfl, rfl, rfl, rfl⟩
    · have a1 : agC S (sp_cpy S (S.1 5 0).toNatClampNeg (S.1 4 0).toNatClampNeg) := agC.kp kk (by decide)
      exact a1
    · show (sp_cpy S (S.1 5 0).toNatClampNeg (S.1 4 0).toNatClampNeg).1 5 0 + 1 = _
      rw [kk.1 5 (by decide)]
  · exact ⟨agP.rf S, agC.rf S, Or.inl rfl⟩
theorem V_batch (I : invX h S nx T nb dr n nc nd) (c0 c1 c2 c3 r : Int32) : vK me_Top_batch [.int c0, .int c1, .int c2, .int c3, .int r] h nx 4 33 T (sp_batch S c0 c1 c2 c3 r) := by
  refine mj_K.mono (K_Top_batch h S nx nb dr c0 c1 c2 c3 r I.1 I.2.1 I.2.2.1) ?_
  rintro r' h' nx' ⟨hr, hx, f, w, nb', dr', hi⟩
  obtain ⟨p, cc, e5⟩ := bat_ag S c0 c1 c2 c3 r
  refine ⟨hr, (I.b hx.1 ?_ f w hi p cc).mono (by omega)⟩
  have e := hi.2.1
  have h1 := hi.1
  have h2 := I.2.1.1
  rcases e5 with e5 | e5
  · rw [e5, I.2.1.2.1] at e
    have := (nI_eq (by omega) (by omega)).mp e
    omega
  · rw [e5, I.2.1.2.1, nI_1] at e
    have := (nI_eq (by omega) (by omega)).mp e
    omega
theorem V_truth (I : invX h S nx T nb dr n nc nd) (b s : Int32) : mj_K me_Top_truth [.ref 0, .int b, .int s] h nx 0 0 (fun r h' nx' => r = some (.long (sp_truth S b s)) ∧ inv h' S nx' (T + 200)) := by
  refine mj_K.mono (K_Top_truth h S nx nb dr b s I.2.1 I.2.2.1 I.2.2.2.1) ?_
  rintro r h' nx' ⟨hr, rfl, m, ndf, rfl⟩
  exact ⟨hr, inv.mono ⟨nb, dr, n, nc, nd, I.x m ndf⟩ (by omega)⟩
theorem V_state (I : invX h S nx T nb dr n nc nd) (b s w : Int32) : vK me_Top_state [.int b, .int s, .int w] h nx 0 0 T (sp_state S b s w, S) := by
  refine mj_K.mono (K_Top_state h S nx nb dr b s w I.2.1 I.2.2.1 I.2.2.2.1) ?_
  rintro r h' nx' ⟨hr, rfl, m, ndf, rfl⟩
  exact ⟨hr, inv.mono ⟨nb, dr, n, nc, nd, I.x m ndf⟩ (by omega)⟩
theorem V_node (I : invX h S nx T nb dr n nc nd) (b s i : Int32) : mj_K me_Top_node [.ref 0, .int b, .int s, .int i] h nx 0 0 (fun r h' nx' => r = some (.long (sp_node S b s i)) ∧ inv h' S nx' (T + 200)) := by
  refine mj_K.mono (K_Top_node h S nx nb dr b s i I.2.1 I.2.2.1 I.2.2.2.1) ?_
  rintro r h' nx' ⟨hr, rfl, m, ndf, rfl⟩
  exact ⟨hr, inv.mono ⟨nb, dr, n, nc, nd, I.x m ndf⟩ (by omega)⟩
theorem clm_ag (S : rf_S) (p b : Int32) (dg : Int64) : agB S (sp_claim S p b dg).2 ∧ agP S (sp_claim S p b dg).2 := by
  unfold sp_claim
  split
  · exact ⟨⟨rfl, rfl, rfl, rfl, rfl, rfl, rfl, rfl, rfl⟩, ⟨rfl, rfl, rfl, rfl, rfl, rfl⟩⟩
  · exact ⟨agB.rf S, agP.rf S⟩
theorem V_claim (I : invX h S nx T nb dr n nc nd) (p b : Int32) (dg : Int64) : vK me_Top_claim [.int p, .int b, .long dg] h nx 1 7 T (sp_claim S p b dg) := by
  refine mj_K.mono (K_Top_claim h S nx nb dr nc nd T p b dg I.2.1 I.2.2.2.1 I.2.2.2.2.2.1 I.2.2.2.2.2.2) ?_
  rintro r h' nx' ⟨hr, hx, ⟨m, ndf, f⟩, nc', nd', hc, h4⟩
  obtain ⟨a1, a2⟩ := clm_ag S p b dg
  exact ⟨hr, ((I.x m ndf).c hx.1 f hc h4 a1 a2).mono (by omega)⟩
theorem dis_ag (S : rf_S) (p c : Int32) (nd : Nat) : agB S (sp_dispute S p c nd).2 ∧ agP S (sp_dispute S p c nd).2 := by
  unfold sp_dispute
  split
  · exact ⟨⟨rfl, rfl, rfl, rfl, rfl, rfl, rfl, rfl, rfl⟩, ⟨rfl, rfl, rfl, rfl, rfl, rfl⟩⟩
  · exact ⟨agB.rf S, agP.rf S⟩
theorem V_dispute (I : invX h S nx T nb dr n nc nd) (p c : Int32) : vK me_Top_dispute [.int p, .int c] h nx 1 12 T (sp_dispute S p c nd) := by
  refine mj_K.mono (K_Top_dispute h S nx nb dr nc nd T p c I.2.1 I.2.2.1 I.2.2.2.1 I.2.2.2.2.2.1 I.2.2.2.2.2.2) ?_
  rintro r h' nx' ⟨hr, hx, ⟨m, ndf, f⟩, nc', nd', hc, h4⟩
  obtain ⟨a1, a2⟩ := dis_ag S p c nd
  exact ⟨hr, ((I.x m ndf).c hx.1 f hc h4 a1 a2).mono (by omega)⟩
theorem invX.top (I : invX h S nx T nb dr n nc nd) : ∃ pa, h.1 9 0 = some (oTop nb pa) := by
  obtain ⟨h8, hnb, hdr, pa, la, fb, ht, -⟩ := I.2.1
  exact ⟨pa, ht⟩
theorem tel_ag (S : rf_S) (d : Nat) (dg : Int64) : agB S (sp_tell S d dg).2 ∧ agP S (sp_tell S d dg).2 := by
  unfold sp_tell
  split
  · exact ⟨⟨rfl, rfl, rfl, rfl, rfl, rfl, rfl, rfl, rfl⟩, ⟨rfl, rfl, rfl, rfl, rfl, rfl⟩⟩
  · exact ⟨agB.rf S, agP.rf S⟩
def sp_tellD (S : rf_S) (nd : Nat) (d : Int32) (dg : Int64) : Int32 × rf_S := (if isN d (nI nd) then (sp_tell S d.toNatClampNeg dg).1 else -1, if isN d (nI nd) then (sp_tell S d.toNatClampNeg dg).2 else S)
theorem V_tell (I : invX h S nx T nb dr n nc nd) (d : Int32) (dg : Int64) : vK me_Top_tell [.int d, .long dg] h nx 0 0 T (sp_tellD S nd d dg) := by
  obtain ⟨pa, ht⟩ := I.top
  refine mj_K.mono (K_Top_tell h S nx nb pa nc nd T d dg ht I.2.2.2.2.2.1) ?_
  rintro r h' nx' ⟨hr, rfl, f, hc⟩
  have a : agB S (sp_tellD S nd d dg).2 ∧ agP S (sp_tellD S nd d dg).2 ∧ mO S (sp_tellD S nd d dg).2 := by
    show agB S (if isN d (nI nd) then (sp_tell S d.toNatClampNeg dg).2 else S) ∧ agP S (if isN d (nI nd) then (sp_tell S d.toNatClampNeg dg).2 else S) ∧ mO S (if isN d (nI nd) then (sp_tell S d.toNatClampNeg dg).2 else S)
    split
    · exact ⟨(tel_ag S _ dg).1, (tel_ag S _ dg).2, mO.tell S _ dg⟩
    · exact ⟨agB.rf S, agP.rf S, mO.rf S⟩
  exact ⟨hr, (I.c (Nat.le_refl _) f hc (I.2.2.2.2.2.2.mo a.2.2) a.1 a.2.1).mono (by omega)⟩
theorem cho_ag (S : rf_S) (d o : Int32) : agB S (sp_choose S d o).2 ∧ agP S (sp_choose S d o).2 := by
  unfold sp_choose
  split
  · show agB S (sp_choose1 S d.toNatClampNeg o) ∧ agP S (sp_choose1 S d.toNatClampNeg o)
    unfold sp_choose1 sp_ch2
    by_cases c : o = 0
    · rw [if_pos c]; exact ⟨⟨rfl, rfl, rfl, rfl, rfl, rfl, rfl, rfl, rfl⟩, ⟨rfl, rfl, rfl, rfl, rfl, rfl⟩⟩
    · rw [if_neg c]; exact ⟨⟨rfl, rfl, rfl, rfl, rfl, rfl, rfl, rfl, rfl⟩, ⟨rfl, rfl, rfl, rfl, rfl, rfl⟩⟩
  · exact ⟨agB.rf S, agP.rf S⟩
theorem V_choose (I : invX h S nx T nb dr n nc nd) (d o : Int32) : vK me_Top_choose [.int d, .int o] h nx 0 0 T (sp_choose S d o) := by
  obtain ⟨pa, ht⟩ := I.top
  refine mj_K.mono (K_Top_choose h S nx nb pa nc nd T d o ht I.2.2.2.2.2.1) ?_
  rintro r h' nx' ⟨hr, rfl, f, hc⟩
  exact ⟨hr, (I.c (Nat.le_refl _) f hc (I.2.2.2.2.2.2.mo (mO.choose S d o)) (cho_ag S d o).1 (cho_ag S d o).2).mono (by omega)⟩
theorem V_paper (I : invX h S nx T nb dr n nc nd) (pl : Int32) (ro : Int64) : vK me_Top_paper [.int pl, .long ro] h nx 0 0 T (1, sp_paper S pl ro) := by
  obtain ⟨pa, ht⟩ := I.top
  refine mj_K.mono (K_Top_paper h S nx n nb pa pl ro ht I.2.2.2.2.1) ?_
  rintro r h' nx' ⟨hr, rfl, f, hp⟩
  exact ⟨hr, (I.p f hp ⟨rfl, rfl, rfl, rfl, rfl, rfl, rfl, rfl, rfl⟩ ⟨rfl, rfl, rfl, rfl, rfl, rfl, rfl, rfl, rfl, rfl, rfl, rfl, rfl, rfl, rfl, rfl, rfl, rfl, rfl, rfl, rfl⟩).mono (by omega)⟩
theorem cel_ag (S : rf_S) (k v : Int32) (w1 w2 w3 w4' : Int64) (n : Nat) : agB S (sp_cell S k v w1 w2 w3 w4' n).2 ∧ agC S (sp_cell S k v w1 w2 w3 w4' n).2 := by
  unfold sp_cell
  split
  · exact ⟨⟨rfl, rfl, rfl, rfl, rfl, rfl, rfl, rfl, rfl⟩, ⟨rfl, rfl, rfl, rfl, rfl, rfl, rfl, rfl, rfl, rfl, rfl, rfl, rfl, rfl, rfl, rfl, rfl, rfl, rfl, rfl, rfl⟩⟩
  · exact ⟨agB.rf S, agC.rf S⟩
theorem V_cell (I : invX h S nx T nb dr n nc nd) (k v : Int32) (w1 w2 w3 w4' : Int64) : vK me_Top_cell [.int k, .int v, .long w1, .long w2, .long w3, .long w4'] h nx 0 0 T (sp_cell S k v w1 w2 w3 w4' n) := by
  obtain ⟨pa, ht⟩ := I.top
  refine mj_K.mono (K_Top_cell h S nx n nb pa k v w1 w2 w3 w4' ht I.2.2.2.2.1) ?_
  rintro r h' nx' ⟨hr, rfl, f, hp⟩
  exact ⟨hr, (I.p f hp (cel_ag S k v w1 w2 w3 w4' n).1 (cel_ag S k v w1 w2 w3 w4' n).2).mono (by omega)⟩
theorem pro_ag (S : rf_S) (d : Int32) (nd n : Nat) : agB S (sp_prove S d nd n).2 ∧ agP S (sp_prove S d nd n).2 := by
  unfold sp_prove
  split
  · show agB S (sp_prove1 S d.toNatClampNeg nd n).2 ∧ agP S (sp_prove1 S d.toNatClampNeg nd n).2
    unfold sp_prove1
    have b0 : agB S (sA S 33 d.toNatClampNeg (S.1 33 d.toNatClampNeg + 1)) := ⟨rfl, rfl, rfl, rfl, rfl, rfl, rfl, rfl, rfl⟩
    have p0 : agP S (sA S 33 d.toNatClampNeg (S.1 33 d.toNatClampNeg + 1)) := ⟨rfl, rfl, rfl, rfl, rfl, rfl⟩
    split
    · exact ⟨b0.tr (agB.kp (sp_cw_kp _ _) (by decide)), p0.tr (agP.kp (sp_cw_kp _ _) (by decide))⟩
    · exact ⟨b0.tr (agB.kp (sp_dw_kp _ _ _) (by decide)), p0.tr (agP.kp (sp_dw_kp _ _ _) (by decide))⟩
  · exact ⟨agB.rf S, agP.rf S⟩
theorem V_prove (I : invX h S nx T nb dr n nc nd) (d : Int32) : vK me_Top_prove [.int d] h nx 0 0 T (sp_prove S d nd n) := by
  refine mj_K.mono (K_Top_prove h S nx nb dr nc nd T n d I.2.1 I.2.2.1 I.2.2.2.2.1 I.2.2.2.2.2.1 I.2.2.2.2.2.2) ?_
  rintro r h' nx' ⟨hr, rfl, f, hc⟩
  exact ⟨hr, (I.c (Nat.le_refl _) f hc (I.2.2.2.2.2.2.mo (mO.prove S d nd n)) (pro_ag S d nd n).1 (pro_ag S d nd n).2).mono (by omega)⟩
theorem V_judge (I : invX h S nx T nb dr n nc nd) (b : Int32) (low high : Int64) : vK me_Top_judge [.int b, .long low, .long high] h nx 0 0 T (if isN b (S.1 5 0) then sp_judge S b.toNatClampNeg low high n else -1, S) := by
  refine mj_K.mono (K_Top_judge h S nx n nb dr b low high I.2.1 I.2.2.1 I.2.2.2.2.1) ?_
  rintro r h' nx' ⟨hr, rfl, rfl⟩
  exact ⟨hr, inv.mono ⟨nb, dr, n, nc, nd, I⟩ (by omega)⟩
theorem wl_2 (f : Nat → Int32) (ask : Nat → Bool) (T : rf_S) (i : Nat) : (sp_wl f ask T i).2 18 = T.2 18 ∧ (sp_wl f ask T i).2 27 = T.2 27 ∧ (sp_wl f ask T i).2 28 = T.2 28 ∧ (sp_wl f ask T i).2 29 = T.2 29 := by
  induction i with
  | zero => exact ⟨rfl, rfl, rfl, rfl⟩
  | succ i ih =>
    have e : ∀ U : rf_S, (sp_w1 f ask U i).2 18 = U.2 18 ∧ (sp_w1 f ask U i).2 27 = U.2 27 ∧ (sp_w1 f ask U i).2 28 = U.2 28 ∧ (sp_w1 f ask U i).2 29 = U.2 29 := fun U => by
      unfold sp_w1
      split <;> exact ⟨rfl, rfl, rfl, rfl⟩
    have e := e (sp_wl f ask T i)
    exact ⟨e.1.trans ih.1, e.2.1.trans ih.2.1, e.2.2.1.trans ih.2.2.1, e.2.2.2.trans ih.2.2.2⟩
theorem wr_ag (S : rf_S) (b s : Int32) : agB S (sp_write S b s).2 ∧ agC S (sp_write S b s).2 := by
  unfold sp_write
  split
  · show agB S (sp_write1 S b.toNatClampNeg s.toNatClampNeg) ∧ agC S (sp_write1 S b.toNatClampNeg s.toNatClampNeg)
    unfold sp_write1
    generalize sp_M S b.toNatClampNeg s.toNatClampNeg = M
    split
    · have k := sp_wl_kp M.1 (m_ask (sp_P S b.toNatClampNeg) M.1 M.2.1.toNatClampNeg) (sp_paper S M.2.1 (t_n M.1 1)) 16
      have k2 := wl_2 M.1 (m_ask (sp_P S b.toNatClampNeg) M.1 M.2.1.toNatClampNeg) (sp_paper S M.2.1 (t_n M.1 1)) 16
      generalize sp_wl M.1 (m_ask (sp_P S b.toNatClampNeg) M.1 M.2.1.toNatClampNeg) (sp_paper S M.2.1 (t_n M.1 1)) 16 = V at k k2
      exact ⟨⟨k 0 (by decide), k 1 (by decide), k 2 (by decide), k 3 (by decide), k 4 (by decide), k 5 (by decide), k 6 (by decide), k 7 (by decide), k 8 (by decide)⟩, ⟨k 13 (by decide), k 14 (by decide), k 15 (by decide), k 16 (by decide), k 17 (by decide), k 19 (by decide), k 20 (by decide), k 21 (by decide), k 22 (by decide), k 23 (by decide), k 24 (by decide), k 25 (by decide), k 26 (by decide), k 30 (by decide), k 31 (by decide), k 32 (by decide), k 33 (by decide), k2.1, k2.2.1, k2.2.2.1, k2.2.2.2⟩⟩
    · exact ⟨⟨rfl, rfl, rfl, rfl, rfl, rfl, rfl, rfl, rfl⟩, ⟨rfl, rfl, rfl, rfl, rfl, rfl, rfl, rfl, rfl, rfl, rfl, rfl, rfl, rfl, rfl, rfl, rfl, rfl, rfl, rfl, rfl⟩⟩
  · exact ⟨agB.rf S, agC.rf S⟩
theorem V_write (I : invX h S nx T nb dr n nc nd) (b s : Int32) : vK me_Top_write [.int b, .int s] h nx 0 0 T (sp_write S b s) := by
  refine mj_K.mono (K_Top_write h S nx n nb dr b s I.2.1 I.2.2.1 I.2.2.2.1 I.2.2.2.2.1) ?_
  rintro r h' nx' ⟨hr, rfl, m, ndf, f, hp⟩
  exact ⟨hr, ((I.x m ndf).p f hp (wr_ag S b s).1 (wr_ag S b s).2).mono (by omega)⟩
theorem tic_ag (S : rf_S) (k : Int32) (nc nd : Nat) : agB S (sp_tick S k nc nd).2 ∧ agP S (sp_tick S k nc nd).2 := by
  unfold sp_tick
  split
  · exact ⟨agB.kp (sp_tN_kp _ _ _ _) (by decide), agP.kp (sp_tN_kp _ _ _ _) (by decide)⟩
  · exact ⟨agB.rf S, agP.rf S⟩
theorem V_tick (I : invX h S nx T nb dr n nc nd) (hT : T + 200 < 2 ^ 28) (k : Int32) : vK me_Top_tick [.int k] h nx 0 0 T (sp_tick S k nc nd) := by
  obtain ⟨pa, ht⟩ := I.top
  refine mj_K.mono (K_Top_tick h S nx nb pa nc nd T k hT ht I.2.2.2.2.2.1) ?_
  rintro r h' nx' ⟨hr, rfl, f, hc⟩
  exact ⟨hr, I.c (Nat.le_refl _) f hc (I.2.2.2.2.2.2.mo (mO.tick S k nc nd)) (tic_ag S k nc nd).1 (tic_ag S k nc nd).2⟩
theorem V_ofClaim (I : invX h S nx T nb dr n nc nd) (c w : Int32) : vK me_Top_ofClaim [.int c, .int w] h nx 0 0 T (sp_ofClaim S c w nd, S) := by
  obtain ⟨pa, ht⟩ := I.top
  refine mj_K.mono (K_Top_ofClaim h S nx nb pa nc nd T c w ht I.2.2.2.2.2.1) ?_
  rintro r h' nx' ⟨hr, rfl, rfl⟩
  exact ⟨hr, inv.mono ⟨nb, dr, n, nc, nd, I⟩ (by omega)⟩
theorem V_ofDispute (I : invX h S nx T nb dr n nc nd) (c w : Int32) : vK me_Top_ofDispute [.int c, .int w] h nx 0 0 T (sp_ofDispute S c w, S) := by
  obtain ⟨pa, ht⟩ := I.top
  refine mj_K.mono (K_Top_ofDispute h S nx nb pa nc nd T c w ht I.2.2.2.2.2.1) ?_
  rintro r h' nx' ⟨hr, rfl, rfl⟩
  exact ⟨hr, inv.mono ⟨nb, dr, n, nc, nd, I⟩ (by omega)⟩
theorem V_digest (I : invX h S nx T nb dr n nc nd) (c w : Int32) : mj_K me_Top_digest [.ref 0, .int c, .int w] h nx 0 0 (fun r h' nx' => r = some (.long (sp_digest S c w)) ∧ inv h' S nx' (T + 200)) := by
  obtain ⟨pa, ht⟩ := I.top
  refine mj_K.mono (K_Top_digest h S nx nb pa nc nd T c w ht I.2.2.2.2.2.1) ?_
  rintro r h' nx' ⟨hr, rfl, rfl⟩
  exact ⟨hr, inv.mono ⟨nb, dr, n, nc, nd, I⟩ (by omega)⟩
theorem V_purse (I : invX h S nx T nb dr n nc nd) (p : Int32) : vK me_Top_purse [.int p] h nx 0 0 T (sp_purse S p, S) := by
  obtain ⟨pa, ht⟩ := I.top
  refine mj_K.mono (K_Top_purse h S nx nb pa nc nd T p ht I.2.2.2.2.2.1) ?_
  rintro r h' nx' ⟨hr, rfl, rfl⟩
  exact ⟨hr, inv.mono ⟨nb, dr, n, nc, nd, I⟩ (by omega)⟩
theorem V_sum (I : invX h S nx T nb dr n nc nd) : vK me_Top_sum [] h nx 0 0 T (sp_sum S nc nd, S) := by
  obtain ⟨pa, ht⟩ := I.top
  refine mj_K.mono (K_Top_sum h S nx nb pa nc nd T ht I.2.2.2.2.2.1) ?_
  rintro r h' nx' ⟨hr, rfl, rfl⟩
  exact ⟨hr, inv.mono ⟨nb, dr, n, nc, nd, I⟩ (by omega)⟩
theorem cle_ag (S : rf_S) : agB S (sp_clear S).2 ∧ agP S (sp_clear S).2 := by
  have kk := fil_kp (sI (sI (sI S 15 0) 21 0) 13 0) 8
  have b0 : agB S (sI (sI (sI S 15 0) 21 0) 13 0) := ⟨rfl, rfl, rfl, rfl, rfl, rfl, rfl, rfl, rfl⟩
  have p0 : agP S (sI (sI (sI S 15 0) 21 0) 13 0) := ⟨rfl, rfl, rfl, rfl, rfl, rfl⟩
  exact ⟨b0.tr (agB.kp kk (by decide)), p0.tr (agP.kp kk (by decide))⟩
theorem V_clear (I : invX h S nx T nb dr n nc nd) : vK me_Top_clear [] h nx 0 0 T (sp_clear S) := by
  obtain ⟨pa, ht⟩ := I.top
  refine mj_K.mono (K_Top_clear h S nx nb pa nc nd T ht I.2.2.2.2.2.1) ?_
  rintro r h' nx' ⟨hr, rfl, f, hc⟩
  exact ⟨hr, (I.c (Nat.le_refl _) f hc ⟨fun c hc => absurd hc (by omega), fun c hc => absurd hc (by omega)⟩ (cle_ag S).1 (cle_ag S).2).mono (by omega)⟩
end VA
