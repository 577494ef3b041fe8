/-! the class: write, whole -/
theorem iPa.x {h : mj_H} {S : rf_S} {n : Nat} (hp : iPa h S n) (m : mS) (nd : Nat → Int64) : iPa (cX h m nd) S n := by
  obtain ⟨hq, h7, h8, ho⟩ := hp
  refine ⟨hq, h7, h8, fun i hi => ⟨(ho i hi).1, ?_⟩⟩
  obtain ⟨w, o2, o3⟩ := (ho i hi).2
  refine ⟨w, ?_, o3⟩
  show (mj_sl (mj_si (mj_so h 5 4 (oMch m)) 5 16 m.1) 6 32 nd).2.2.1 (10 + 2 * i) = some (4, w)
  rw [sl_ne (by omega)]
  exact o2
theorem so_comm {h : mj_H} {ci cj a b : Nat} {x y : List Value} (e : ci ≠ cj) : mj_so (mj_so h ci a x) cj b y = mj_so (mj_so h cj b y) ci a x := by
  refine Prod.ext ?_ rfl
  funext c q
  show (if c = cj then (if q = b then some y else if c = ci then (if q = a then some x else h.1 c q) else h.1 c q) else if c = ci then (if q = a then some x else h.1 c q) else h.1 c q) = (if c = ci then (if q = a then some x else if c = cj then (if q = b then some y else h.1 c q) else h.1 c q) else if c = cj then (if q = b then some y else h.1 c q) else h.1 c q)
  by_cases e1 : c = cj
  · have e2 : ¬ c = ci := fun z => e (z.symm.trans e1)
    simp only [if_pos e1, if_neg e2]
  · simp only [if_neg e1]
theorem cX_7 (h : mj_H) (m : mS) (nd : Nat → Int64) (x : List Value) : cX (mj_so h 7 7 x) m nd = mj_so (cX h m nd) 7 7 x := by
  show mj_sl (mj_si (mj_so (mj_so h 7 7 x) 5 4 (oMch m)) 5 16 m.1) 6 32 nd = mj_sl (mj_si (mj_so (mj_so h 5 4 (oMch m)) 7 7 x) 5 16 m.1) 6 32 nd
  rw [so_comm (by decide)]
abbrev cKw (M : mj_M) (as : List Value) (h : mj_H) (nx : Nat) (P : Int32 × rf_S) : Prop := mj_K M as h nx 0 0 (fun r h' nx' => r = some (.int P.1) ∧ nx = nx' ∧ ∃ m nd, fP (cX h m nd) h' ∧ ∃ n', iPa h' P.2 n')
theorem cw {P : Int32 × rf_S} {v : Int32} {S' : rf_S} {h h' : mj_H} {nx n' : Nat} {m : mS} {nd : Nat → Int64} (e : P = (v, S')) (f : fP (cX h m nd) h') (i : iPa h' S' n') : some (Value.int v) = some (.int P.1) ∧ nx = nx ∧ ∃ m nd, fP (cX h m nd) h' ∧ ∃ n', iPa h' P.2 n' := by subst e; exact ⟨rfl, rfl, m, nd, f, n', i⟩
set_option maxRecDepth 20000 in
set_option maxHeartbeats 4000000 in
theorem K_Top_write (h : mj_H) (S : rf_S) (nx n nb dr : Nat) (b s : Int32) (hi : iB h S nx nb dr) (hw : wf_O S) (hm : iM h) (hp : iPa h S n) : cKw me_Top_write [.ref 0, .int b, .int s] h nx (sp_write S b s) := by
  obtain ⟨m0, nd0, q1, q2, q3⟩ := hm
  have eh := cX_id q1 q2 q3
  refine mj_K.of ok_Top_write ck_Top_write (Nat.le_of_ble_eq_true rfl) ?_
  obtain ⟨h8, hnb, hdr, pa, la, fb, ht, hfb, hd, hbs⟩ := id hi
  by_cases c : isN b (S.1 5 0)
  · obtain ⟨bb, hbb, rfl⟩ := isN_nat (n := nb) (by omega) (by rw [← hnb]; exact c)
    have eb : (nI bb).toNatClampNeg = bb := nI_clamp (by omega)
    obtain ⟨a, p, l, fa, ln, F, hf, g1, g2, g3, g4, g5, g6, g7, -⟩ := hbs bb hbb
    have hlen : S.1 6 bb = nI ln := g7.2.1
    have hln := g7.1
    by_cases c2 : 0 ≤ s ∧ s < S.1 8 bb
    · obtain ⟨N, hN, rfl⟩ := le_nat c2.1
      have en : (nI N).toNatClampNeg = N := nI_clamp hN
      have esw : sp_write S (nI bb) (nI N) = ((sp_write1 S bb N).1 36 0, sp_write1 S bb N) := by
        rw [sp_write, eb, en, if_pos ⟨c, c2⟩]
      rw [esw]
      have hle : nI N ≤ S.1 8 bb := by have := c2.2; rw [Int32.lt_iff_toInt_lt] at this; rw [Int32.le_iff_toInt_le]; omega
      rw [show mj_W me_Top_write 0 _ _ h = mj_W me_Top_write 0 _ _ (cX h m0 nd0) by rw [eh]]
      iterate 2 (refine mj_r_pure rfl rfl ?_)
      refine mj_r_cV0 (ci := 9)  rfl li_Top_94 ck_Top_batchAt iv_Top_batchAt (by decide) ((K_Top_batchAt_t (cX h m0 nd0) nx nb pa bb a fb h8 ht hfb hbb hf)) rfl rfl (Nat.le_of_ble_eq_true rfl) rfl (show (cX h m0 nd0).1 9 0 = some _ from ht) ?_
      rintro _ _ _ ⟨rfl, rfl, rfl⟩ _
      iterate 2 (refine mj_r_pure rfl rfl ?_)
      refine mj_r_pure rfl rfl ?_
      iterate 2 (refine mj_r_pure rfl rfl ?_)
      refine mj_r_getf rfl rfl g2 rfl ?_
      refine mj_r_icmp_ge rfl (fun c1 => absurd c1 (fun q => absurd c2.2 (Int32.not_lt.mpr q))) (fun c1 => ?_)
      iterate 3 (refine mj_r_pure rfl rfl ?_)
      refine mj_r_cV0 (ci := 9)  rfl li_Top_69 ck_Top_reach iv_Top_reach (by decide) ((K_Top_reach_t h S nx nb dr bb N m0 nd0 hi hw hbb hN hle)) rfl rfl (Nat.le_of_ble_eq_true rfl) rfl (show (cX h m0 nd0).1 9 0 = some _ from ht) ?_
      rintro _ _ _ ⟨rfl, rfl, m, rfl, hm⟩ _
      refine mj_r_if_ne rfl (fun c2 => ?_) (fun c2 => absurd c2 (by decide))
      refine mj_r_pure rfl rfl ?_
      refine mj_r_getf rfl rfl ht rfl ?_
      refine mj_r_cV0 (ci := 5)  rfl li_Top_87 ck_Machine_growTree iv_Machine_growTree (by decide) (K_Machine_growTree h nx m nd0) rfl rfl (Nat.le_of_ble_eq_true rfl) rfl rfl ?_
      rintro _ _ _ ⟨rfl, rfl, nd, rfl, hnd0⟩ _
      have hnd : ∀ j, 1 ≤ j → j < 32 → nd j = t_n (sp_M S bb N).1 j := fun j h1 h2 => (hnd0 j h1 h2).trans (t_n_ag hm.1 h1 h2)
      refine mj_r_pure rfl rfl ?_
      refine mj_r_getf rfl rfl ht rfl ?_
      refine mj_r_pure rfl rfl ?_
      refine mj_r_getf rfl rfl ht rfl ?_
      refine mj_r_getf rfl rfl rfl rfl ?_
      refine mj_r_pure rfl rfl ?_
      refine mj_r_getf rfl rfl ht rfl ?_
      refine mj_r_getf rfl rfl rfl rfl ?_
      refine mj_r_pure rfl rfl ?_
      refine cx_lald rfl rfl (show (1 : Int32) = nI 1 from rfl) (by omega) ?_
      change mj_W _ _ _ [.long (nd 1), .int m.2.1, .ref 7] _ _ _ _ _ _
      rw [hnd 1 (by omega) (by omega), hm.2.1]
      refine mj_r_cV0 (ci := 7)  rfl li_Top_149 ck_Paper_begin iv_Paper_begin (by decide) ((K_Paper_begin _ nx _ _ _ _ _ (hp.x m nd).2.1)) rfl rfl (Nat.le_of_ble_eq_true rfl) rfl (hp.x m nd).2.1 ?_
      rintro _ _ _ ⟨rfl, rfl, rfl⟩ _
      refine mj_r_pure rfl rfl ?_
      refine mj_r_getf rfl rfl ht rfl ?_
      refine mj_r_pure rfl rfl ?_
      refine mj_r_getf rfl rfl g2 rfl ?_
      skip
      have hp1 := (hp.x m nd).begin (sp_M S bb N).2.1 (t_n (sp_M S bb N).1 1)
      have fin : ∀ ask mask, (∀ i, i < 16 → ((mask >>> (nI i &&& 31) &&& 1 = 1) ↔ ask i = true)) → sp_write1 S bb N = sp_wl (sp_M S bb N).1 ask (sp_paper S (sp_M S bb N).2.1 (t_n (sp_M S bb N).1 1)) 16 → mj_W me_Top_write 70 [(0, .ref 0), (1, .int (nI bb)), (2, .int (nI N)), (3, .ref a)] [.int mask] (mj_so (cX h m nd) 7 7 (oPap (sp_M S bb N).2.1 (t_n (sp_M S bb N).1 1) 0)) mj_0 nx 0 0 (fun _ => True, fun r h' _ nx' => r = some (.int ((sp_write1 S bb N).1 36 0)) ∧ nx = nx' ∧ ∃ m nd, fP (cX h m nd) h' ∧ ∃ n', iPa h' (sp_write1 S bb N) n') := fun ask mask hask ew => by
        rw [ew]
        iterate 3 (refine mj_r_pure rfl rfl ?_)
        refine cl_wl (h0 := mj_so (cX h m nd) 7 7 (oPap (sp_M S bb N).2.1 (t_n (sp_M S bb N).1 1) 0)) (m := m) (nd := nd) (f := (sp_M S bb N).1) (ask := ask) ht ⟨rfl, rfl, rfl⟩ hm.1 hnd hask (fun h' c' hfr hp' => ?_) 16 0 0 _ rfl (fP.rf _) hp1
        have ht' : h'.1 9 0 = some (oTop nb pa) := by rw [hfr.1 9 (by decide) (by decide)]; exact ht
        refine mj_r_pure rfl rfl ?_
        refine mj_r_getf rfl rfl ht' rfl ?_
        refine mj_r_getf rfl rfl hp'.2.1 rfl ?_
        exact mj_r_iret rfl rfl rfl ⟨congrArg (fun z => some (Value.int z)) hp'.1.1.symm, rfl, m, nd, ((fP.rf _).so (Or.inr rfl)).tr hfr, c', hp'⟩
      by_cases ci : isN (sp_M S bb N).2.1 (S.1 6 bb)
      · obtain ⟨j, hj, hj2⟩ := isN_nat (n := ln) (by omega) (by rw [← hlen]; exact ci)
        have ew : sp_write1 S bb N = sp_wl (sp_M S bb N).1 (m_ask (sp_P S bb) (sp_M S bb N).1 j) (sp_paper S (sp_M S bb N).2.1 (t_n (sp_M S bb N).1 1)) 16 := by
          rw [sp_write1, if_pos ci, hj2, nI_clamp (by omega)]
        have em : m_mask (sp_P S bb) m.1 j = m_mask (sp_P S bb) (sp_M S bb N).1 j := by
          obtain ⟨a0, ha, ha2⟩ := (hw.1.ok bb).1 j
          obtain ⟨b0, hb3, hb2⟩ := (hw.1.ok bb).2 j
          unfold m_mask m_va m_vb
          rw [ha2, hb2, nI_clamp (by omega), nI_clamp (by omega), hm.1 a0 ha, hm.1 b0 hb3]
        have K9 := K_Machine_asked_t (mj_so h 7 7 (oPap (sp_M S bb N).2.1 (t_n (sp_M S bb N).1 1) 0)) nx p ln j (sp_P S bb) m nd g7.pr (hw.1.ok bb) hj (hm.2.1.trans hj2)
        rw [em, cX_7] at K9
        refine mj_r_cV0 (ci := 5) rfl li_Top_197 ck_Machine_askedCells iv_Machine_askedCells (by decide) K9 rfl rfl (Nat.le_of_ble_eq_true rfl) rfl rfl ?_
        rintro _ _ _ ⟨rfl, rfl, rfl⟩ _
        exact fin _ _ (fun i hi => mask_ask (hw.1.ok bb) hi) ew
      · have ew : sp_write1 S bb N = sp_wl (sp_M S bb N).1 (fun _ => false) (sp_paper S (sp_M S bb N).2.1 (t_n (sp_M S bb N).1 1)) 16 := by
          rw [sp_write1, if_neg ci, sp_wl_no]
        have K9 := K_Machine_asked_f (mj_so h 7 7 (oPap (sp_M S bb N).2.1 (t_n (sp_M S bb N).1 1) 0)) nx p ln (sp_P S bb) m nd g7.pr (by rw [hm.2.1]; exact ci)
        rw [cX_7] at K9
        refine mj_r_cV0 (ci := 5) rfl li_Top_197 ck_Machine_askedCells iv_Machine_askedCells (by decide) K9 rfl rfl (Nat.le_of_ble_eq_true rfl) rfl rfl ?_
        rintro _ _ _ ⟨rfl, rfl, rfl⟩ _
        refine fin _ _ (fun i hi => ⟨fun q => ?_, fun q => by cases q⟩) ew
        rw [show (0 : Int32) = nI 0 from rfl, bit_nI (by omega) hi, Nat.zero_testBit] at q
        cases q
    · rw [show sp_write S (nI bb) s = (-1, S) by rw [sp_write, eb, if_neg (fun q => c2 q.2)]]
      by_cases cv : sp_vs S (nI bb) s
      · iterate 2 (refine mj_r_pure rfl rfl ?_)
        refine mj_r_cV0 (ci := 9)  rfl li_Top_94 ck_Top_batchAt iv_Top_batchAt (by decide) ((K_Top_batchAt_t _ nx nb pa bb a fb h8 ht hfb hbb hf)) rfl rfl (Nat.le_of_ble_eq_true rfl) rfl ht ?_
        rintro _ _ _ ⟨rfl, rfl, rfl⟩ _
        iterate 2 (refine mj_r_pure rfl rfl ?_)
        refine mj_r_pure rfl rfl ?_
        iterate 2 (refine mj_r_pure rfl rfl ?_)
        refine mj_r_getf rfl rfl g2 rfl ?_
        refine mj_r_icmp_ge rfl (fun z1 => ?_) (fun z1 => ?_)
        · refine mj_r_pure rfl rfl ?_
          exact mj_r_iret rfl rfl rfl ((cw (m := m0) (nd := nd0) rfl (by rw [eh]; exact fP.rf _) hp))
        · exact absurd ⟨cv.2.1, nge_lt z1⟩ c2
      · iterate 2 (refine mj_r_pure rfl rfl ?_)
        refine mj_r_cV0 (ci := 9)  rfl li_Top_94 ck_Top_batchAt iv_Top_batchAt (by decide) ((K_Top_batchAt_t _ nx nb pa bb a fb h8 ht hfb hbb hf)) rfl rfl (Nat.le_of_ble_eq_true rfl) rfl ht ?_
        rintro _ _ _ ⟨rfl, rfl, rfl⟩ _
        iterate 2 (refine mj_r_pure rfl rfl ?_)
        refine mj_r_pure rfl rfl ?_
        iterate 2 (refine mj_r_pure rfl rfl ?_)
        refine mj_r_getf rfl rfl g2 rfl ?_
        refine mj_r_icmp_ge rfl (fun z1 => ?_) (fun z1 => ?_)
        · refine mj_r_pure rfl rfl ?_
          exact mj_r_iret rfl rfl rfl ((cw (m := m0) (nd := nd0) rfl (by rw [eh]; exact fP.rf _) hp))
        · iterate 3 (refine mj_r_pure rfl rfl ?_)
          refine mj_r_cV0 (ci := 9)  rfl li_Top_69 ck_Top_reach iv_Top_reach (by decide) ((K_Top_reach_f _ S nx nb dr _ s hi cv)) rfl rfl (Nat.le_of_ble_eq_true rfl) rfl ht ?_
          rintro _ _ _ ⟨rfl, rfl, rfl⟩ _
          refine mj_r_if_ne rfl (fun z2 => absurd z2 (fun q => q rfl)) (fun z2 => ?_)
          refine mj_r_pure rfl rfl ?_
          exact mj_r_iret rfl rfl rfl ((cw (m := m0) (nd := nd0) rfl (by rw [eh]; exact fP.rf _) hp))
  · rw [show sp_write S b s = (-1, S) by rw [sp_write, if_neg (fun q => c q.1)]]
    iterate 2 (refine mj_r_pure rfl rfl ?_)
    refine mj_r_cV0 (ci := 9)  rfl li_Top_94 ck_Top_batchAt iv_Top_batchAt (by decide) ((K_Top_batchAt_f _ nx nb pa b ht (by rw [← hnb]; exact c))) rfl rfl (Nat.le_of_ble_eq_true rfl) rfl ht ?_
    rintro _ _ _ ⟨rfl, rfl, rfl⟩ _
    iterate 2 (refine mj_r_pure rfl rfl ?_)
    refine mj_r_pure rfl rfl ?_
    refine mj_r_pure rfl rfl ?_
    exact mj_r_iret rfl rfl rfl ((cw (m := m0) (nd := nd0) rfl (by rw [eh]; exact fP.rf _) hp))
