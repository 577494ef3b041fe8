/-! the class: dispute, prove -/
theorem le_eqI {n k : Nat} (h : n ≤ k) (hk : k < 2 ^ 31) : nI k ≤ nI n ↔ nI n = nI k := by
  rw [nI_leI hk (by omega), nI_eq (by omega) hk]
  omega
theorem z1 : (0 : Int32) + 1 = 1 := by decide +kernel
theorem pAll.dispute {S : rf_S} {nc nd T p c : Nat} {od to : Nat → Int32} {md : Nat → Int64} {oc n : Int32} {t9 : Int64} (P : pAll S nc nd T od oc to md) (hnd : nd < 80) (hp : p < 8) (hc : c < nc) (h19 : S.1 19 c = 0) : pAll (sp_dis0 S (nI p) (nI c) nd t9 n) nc (nd + 1) T (upd od c (od c + 1)) oc (upd to nd 0) (vp_updL md nd 0) := by
  obtain ⟨⟨hw, h1, h2, h3⟩, PK, PT, PU⟩ := P
  obtain ⟨w1, w2, w3, w4, w5, w6, w7⟩ := hw
  have e23 : (sp_dis0 S (nI p) (nI c) nd t9 n).1 23 = upd (S.1 23) nd (nI c) := rfl
  have e24 : (sp_dis0 S (nI p) (nI c) nd t9 n).1 24 = upd (S.1 24) nd 0 := rfl
  refine ⟨⟨⟨?_, by omega, w3, w4, fun d hd => ?_, fun d hd => ?_, w7⟩, fun j hj => ?_, h2, fun d hd h0 => ?_⟩, fun d hd _ h0 => ?_, fun d hd => ?_, PU⟩
  · show S.1 21 0 + 1 = nI (nd + 1)
    rw [w1, nI_1]
  · rw [e23]
    by_cases e : d = nd
    · rw [e, pk_us]; exact ⟨c, hc, rfl⟩
    · rw [pk_un e]; exact w5 d (by omega)
  · show ∃ q, q < 8 ∧ upd (S.1 22) nd (nI p) d = nI q
    by_cases e : d = nd
    · rw [e, pk_us]; exact ⟨p, hp, rfl⟩
    · rw [pk_un e]; exact w6 d (by omega)
  · have eo : sp_open (sp_dis0 S (nI p) (nI c) nd t9 n) (nI j) (nd + 1) = sp_open S (nI j) nd + (if sp_isO (sp_dis0 S (nI p) (nI c) nd t9 n) (nI j) nd then 1 else 0) := by
      show cnt _ nd + _ = _
      rw [cnt_ag (q := sp_isO S (nI j)) (fun i hi => isO_e (by rw [e23, e24, pk_un (by omega), pk_un (by omega)]))]
      rfl
    rw [eo]
    by_cases e : j = c
    · subst e
      rw [pk_us, h1 j hj, if_pos (isO_t (by rw [e23, pk_us]) (by rw [e24, pk_us])), nI_1]
    · rw [pk_un e, h1 j hj, if_neg (by rw [isO_f (fun q => by rw [e23, pk_us] at q; exact e ((nI_eq (by omega) (by omega)).mp q.1).symm)]; decide)]
      rfl
  · rw [e23]
    rw [e24] at h0
    show S.1 19 _ = 0
    by_cases e : d = nd
    · rw [e, pk_us, nI_clamp (by omega)]; exact h19
    · rw [pk_un e] at h0 ⊢
      exact h3 d (by omega) h0
  · show ∃ i j : Nat, i < 30 ∧ j < 30 ∧ upd (S.1 31) nd 0 d = nI i ∧ upd (S.1 32) nd 0 d = nI j
    rw [e24] at h0
    by_cases e : d = nd
    · rw [e, pk_us, pk_us]; exact ⟨0, 0, by omega, by omega, rfl, rfl⟩
    · rw [pk_un e] at h0
      rw [pk_un e, pk_un e]
      exact PK d (by omega) (by omega) h0
  · show upd (S.1 30) nd (if n = 1 then 2 else 0) d = (if upd (S.1 26) nd n d = upd (S.1 25) nd 0 d + 1 then 2 else if upd to nd 0 d = 0 then 0 else 1) ∧ vp_updL (S.2 29) nd 0 d = (if upd to nd 0 d = 0 then 0 else vp_updL md nd 0 d)
    by_cases e : d = nd
    · subst e
      rw [pk_us, pk_us, pk_us, pk_us, pk_uLs, z1, if_pos rfl, if_pos rfl]
      exact ⟨rfl, rfl⟩
    · rw [pk_un e, pk_un e, pk_un e, pk_un e, pk_uLn e, pk_uLn e]
      exact PT d (by omega)
theorem p4.dispute {S : rf_S} {nb nc nd p c : Nat} {n : Int32} {t9 : Int64} (P : p4 nb S nc nd) (h40 : nc ≤ 40) (hc : c < nc) (h4 : sp_open S (nI c) nd < 4) : p4 nb (sp_dis0 S (nI p) (nI c) nd t9 n) nc (nd + 1) := by
  have e23 : (sp_dis0 S (nI p) (nI c) nd t9 n).1 23 = upd (S.1 23) nd (nI c) := rfl
  have e24 : (sp_dis0 S (nI p) (nI c) nd t9 n).1 24 = upd (S.1 24) nd 0 := rfl
  refine ⟨fun j hj => ?_, P.2⟩
  have eo : sp_open (sp_dis0 S (nI p) (nI c) nd t9 n) (nI j) (nd + 1) = sp_open S (nI j) nd + (if sp_isO (sp_dis0 S (nI p) (nI c) nd t9 n) (nI j) nd then 1 else 0) := by
    show cnt _ nd + _ = _
    rw [cnt_ag (q := sp_isO S (nI j)) (fun i hi => isO_e (by rw [e23, e24, pk_un (by omega), pk_un (by omega)]))]
    rfl
  rw [eo]
  by_cases e : j = c
  · subst e
    split <;> omega
  · rw [if_neg (by rw [isO_f (fun q => by rw [e23, pk_us] at q; exact e ((nI_eq (by omega) (by omega)).mp q.1).symm)]; decide)]
    exact P.1 j hj
theorem cS.dispute {h : mj_H} {S : rf_S} {od to : Nat → Int32} {md : Nat → Int64} {oc n : Int32} {t9 : Int64} {fc fd : Nat → Option Nat} {nx nc nd p c ca : Nat} (R : cS h S od to md oc fc fd nx nc nd) (hw : wf_D S nc nd) (hp : p < 8) (hc : c < nc) (hca : fc c = some ca) : cS (mj_so (mj_so (mj_sr (mj_so (mj_si h 18 8 (upd (S.1 14) p (S.1 14 p - 50))) 3 nx (oDis (nI p) ca 0 0 n t9 (S.2 18 c) 0 0 0 0 0)) 3 20 80 (va_up fd nd (some nx))) 2 17 (oCrt (nI nc) oc (nI nd + 1) (S.1 13 0))) 1 ca (oClm (nI c) (S.1 16 c) (S.1 17 c) (S.2 18 c) (S.1 19 c) (od c + 1) (S.1 20 c))) (sp_dis0 S (nI p) (nI c) nd t9 n) (upd od c (od c + 1)) (upd to nd 0) (vp_updL md nd 0) oc fc (va_up fd nd (some nx)) (nx + 1) nc (nd + 1) := by
  have h40 := hw.2.2.2.1
  have ep : (nI p).toNatClampNeg = p := nI_clamp (by omega)
  have ec : (nI c).toNatClampNeg = c := nI_clamp (by omega)
  have e14 : (sp_dis0 S (nI p) (nI c) nd t9 n).1 14 = upd (S.1 14) p (S.1 14 p - 50) := by
    show upd (S.1 14) (nI p).toNatClampNeg (S.1 14 (nI p).toNatClampNeg - 50) = _
    rw [ep]
  show cR _ (Cof (sp_dis0 S (nI p) (nI c) nd t9 n) _) (Dof (sp_dis0 S (nI p) (nI c) nd t9 n) fc _ _) ((sp_dis0 S (nI p) (nI c) nd t9 n).1 14) oc (S.1 13 0) fc _ (nx + 1) nc (nd + 1)
  rw [e14]
  refine (((R.setP (upd (S.1 14) p (S.1 14 p - 50))).newD (oDis (nI p) ca 0 0 n t9 (S.2 18 c) 0 0 0 0 0)).setC hc hca _).ext (fun j hj => ?_) (fun j hj => ?_)
  · show oClm (nI j) (S.1 16 j) (S.1 17 j) (S.2 18 j) (S.1 19 j) (upd od c (od c + 1) j) (S.1 20 j) = _
    by_cases e : j = c
    · subst e
      rw [ul_s, pk_us]
    · rw [ul_n e, pk_un e]
      rfl
  · show oDis (upd (S.1 22) nd (nI p) j) ((fc (upd (S.1 23) nd (nI c) j).toNatClampNeg).getD 0) (upd (S.1 24) nd 0 j) (upd (S.1 25) nd 0 j) (upd (S.1 26) nd n j) (vp_updL (S.2 27) nd t9 j) (vp_updL (S.2 28) nd (S.2 18 (nI c).toNatClampNeg) j) (upd to nd 0 j) (vp_updL md nd 0 j) (upd (S.1 31) nd 0 j) (upd (S.1 32) nd 0 j) (upd (S.1 33) nd 0 j) = _
    by_cases e : j = nd
    · subst e
      simp only [ul_s, pk_us, pk_uLs, ec, hca]
      rfl
    · simp only [ul_n e, pk_un e, pk_uLn e]
      rfl
theorem iC.x {h : mj_H} {S : rf_S} {nx nc nd T : Nat} (i : iC h S nx nc nd T) (m : mS) (ndf : Nat → Int64) : iC (cX h m ndf) S nx nc nd T := i
set_option maxRecDepth 20000 in
set_option maxHeartbeats 4000000 in
theorem K_Top_dispute (h : mj_H) (S : rf_S) (nx nb dr nc nd T : Nat) (p c : Int32) (hb : iB h S nx nb dr) (hwO : wf_O S) (hm : iM h) (hi : iC h S nx nc nd T) (h4 : p4 nb S nc nd) : cKn me_Top_dispute [.ref 0, .int p, .int c] h nx T 12 (sp_dispute S p c nd) (p4 nb) := by
  refine mj_K.of ok_Top_dispute ck_Top_dispute (Nat.le_of_ble_eq_true rfl) ?_
  obtain ⟨m0, nd0, q1, q2, q3⟩ := hm
  have eh := cX_id q1 q2 q3
  obtain ⟨od, to, md, oc, fc, fd, R, P⟩ := id hi
  obtain ⟨h8, hnb, hdr, pa, la, fb, ht, hfb, hd, hbs⟩ := hb
  have hw := P.1.1
  have hnc := hw.2.2.1
  have h40 := hw.2.2.2.1
  have hnd := hw.1
  have h80 := hw.2.1
  by_cases a1 : isN c (S.1 15 0)
  · obtain ⟨i, hi2, rfl⟩ := isN_nat (n := nc) (by omega) (by rw [← hnc]; exact a1)
    have ei : (nI i).toNatClampNeg = i := nI_clamp (by omega)
    obtain ⟨ca, k1, k2, -⟩ := R.c hi2
    unfold Cof at k2
    obtain ⟨bb, hbb, e17⟩ := h4.2 i hi2
    have eb : (nI bb).toNatClampNeg = bb := nI_clamp (by omega)
    obtain ⟨a, pp, l, fa, ln, F, hf, g1, g2, g3, g4, g5, g6, g7, -⟩ := hbs bb hbb
    have eod := P.1.2.1 i hi2
    have ho4 := h4.1 i hi2
    have R1 : ∀ (m : mS) (ndf : Nat → Int64), cS (cX h m ndf) S od to md oc fc fd nx nc nd := fun m ndf => R
    rw [show mj_W me_Top_dispute 0 _ _ h = mj_W me_Top_dispute 0 _ _ (cX h m0 nd0) by rw [eh]]
    have iff80 : (80 : Int32) ≤ nI nd ↔ nI nd = 80 := le_eqI (n := nd) (k := 80) h80 (by omega)
    have iff4 : (4 : Int32) ≤ od i ↔ nI (sp_open S (nI i) nd) = 4 := by rw [eod]; exact le_eqI (n := sp_open S (nI i) nd) (k := 4) ho4 (by omega)
    by_cases cc0 : isN p 8 ∧ ¬ S.1 14 p.toNatClampNeg < 50 ∧ ¬ 80 ≤ nI nd ∧ S.1 19 i = 0 ∧ ¬ S.1 16 i = p ∧ ¬ 4 ≤ od i
    · obtain ⟨j, hj, rfl⟩ := isN_nat (n := 8) (by omega) cc0.1
      have ej : (nI j).toNatClampNeg = j := nI_clamp (by omega)
      have hlt : nd < 80 := by
        rcases Nat.lt_or_ge nd 80 with z | z
        · exact z
        · exact absurd (nI_le (a := 80) (b := nd) z (by omega)) cc0.2.2.1
      have ho : sp_open S (nI i) nd < 4 := by
        rcases Nat.lt_or_ge (sp_open S (nI i) nd) 4 with z | z
        · exact z
        · exact absurd (by rw [eod]; exact nI_le (a := 4) (b := sp_open S (nI i) nd) z (by omega)) cc0.2.2.2.2.2
      have esp : sp_dispute S (nI j) (nI i) nd = (nI nd + 1 - 1, sp_dis0 S (nI j) (nI i) nd (m_dig (sp_M S bb 0)) (S.1 8 bb)) := by
        have e1 : nI nd + 1 - 1 = nI nd := by rw [nI_1, nI_pred]
        rw [sp_dispute, ei, if_pos ⟨cc0.1, a1, cc0.2.2.2.1, cc0.2.2.2.2.1, fun q => cc0.2.2.2.2.2 (iff4.mpr q), cc0.2.1, fun q => cc0.2.2.1 (iff80.mpr (hnd.symm.trans q))⟩, e17, eb, hnd, e1]
      refine mj_r_pure rfl rfl ?_
      refine mj_r_getf rfl rfl ht rfl ?_
      refine mj_r_pure rfl rfl ?_
      refine mj_r_cV0 (ci := 2)  rfl li_Top_102 ck_Court_claimAt iv_Court_claimAt (by decide) ((K_Court_claimAt_t (cX h m0 nd0) nx i nc ca _ _ _ fc R.1 R.2.2.1 h40 hi2 k1)) rfl rfl (Nat.le_of_ble_eq_true rfl) rfl (R1 m0 nd0).1 ?_
      rintro _ _ _ ⟨rfl, rfl, rfl⟩ _
      iterate 2 (refine mj_r_pure rfl rfl ?_)
      refine mj_r_pure rfl rfl ?_
      iterate 2 (refine mj_r_pure rfl rfl ?_)
      refine mj_r_getf rfl rfl k2 rfl ?_
      rw [e17]
      refine mj_r_cV0 (ci := 9)  rfl li_Top_94 ck_Top_batchAt iv_Top_batchAt (by decide) ((K_Top_batchAt_t (cX h m0 nd0) nx nb pa bb a fb h8 ht hfb hbb hf)) rfl rfl (Nat.le_of_ble_eq_true rfl) rfl (show (cX h m0 nd0).1 9 0 = some _ from ht) ?_
      rintro _ _ _ ⟨rfl, rfl, rfl⟩ _
      iterate 2 (refine mj_r_pure rfl rfl ?_)
      refine mj_r_pure rfl rfl ?_
      refine mj_r_pure rfl rfl ?_
      refine mj_r_getf rfl rfl ht rfl ?_
      iterate 2 (refine mj_r_pure rfl rfl ?_)
      refine mj_r_cV0 (ci := 5)  rfl li_Top_111 ck_Machine_run iv_Machine_run (by decide) ((K_Machine_run h nx a pp fa ln 0 _ (sp_P S bb) F m0 nd0 g2 g5 (by omega) g7.pr (hwO.1.ok bb) (hwO.op bb) (by omega))) rfl rfl (Nat.le_of_ble_eq_true rfl) rfl rfl ?_
      rintro _ _ _ ⟨rfl, rfl, m1, rfl, hm1⟩ _
      refine mj_r_pure rfl rfl ?_
      refine mj_r_getf rfl rfl ht rfl ?_
      iterate 3 (refine mj_r_pure rfl rfl ?_)
      refine mj_r_getf rfl rfl ht rfl ?_
      refine mj_r_cV0 (ci := 5)  rfl li_Top_73 ck_Machine_digestOfTree iv_Machine_digestOfTree (by decide) (K_Machine_digestOfTree h nx m1 nd0) rfl rfl (Nat.le_of_ble_eq_true rfl) rfl rfl ?_
      rintro _ _ _ ⟨rfl, rfl, ndf, rfl⟩ _
      have ed : m_dig m1 = m_dig (sp_M S bb 0) := by rw [m_0_ag g6] at hm1; exact m_dig_ag hm1
      rw [ed]
      have eR := (R1 m1 ndf).dispute (n := S.1 8 bb) (t9 := m_dig (sp_M S bb 0)) hw hj hi2 k1
      rw [Int32.sub_eq_add_neg] at eR
      refine mj_r_pure rfl rfl ?_
      refine mj_r_getf rfl rfl g2 rfl ?_
      refine mj_r_cV (ci := 2) (kc := 0) (ks := 0) rfl li_Top_118 ck_Court_openDispute iv_Court_openDispute (by decide) ((K_Court_openDispute_t (cX h m1 ndf) nx ca j nd _ oc _ _ _ _ _ _ _ _ _ _ (S.1 14) fd (R1 m1 ndf).1 R.2.1 R.2.2.2.1 k2 hj hlt (by exact cc0))) rfl rfl (Nat.le_of_ble_eq_true rfl) rfl (R1 m1 ndf).1 ?_
      rintro _ _ _ ⟨rfl, rfl, rfl⟩ _
      exact mj_r_iret rfl rfl rfl ((cn esp ⟨by omega, by omega⟩ (((((((fC.rf (cX h m1 ndf)).si).so (Or.inr (Or.inr rfl))).sr (Or.inr rfl)).so (Or.inr (Or.inl rfl)))).so (Or.inl rfl)) ⟨_, _, _, oc, fc, _, eR, P.dispute hlt hj hi2 cc0.2.2.2.1⟩ (h4.dispute h40 hi2 ho)))
    · have esp : sp_dispute S p (nI i) nd = (-1, S) := by
        rw [sp_dispute, ei, if_neg (fun q => cc0 ⟨q.1, q.2.2.2.2.2.1, fun z => q.2.2.2.2.2.2 (hnd.trans (iff80.mp z)), q.2.2.1, q.2.2.2.1, fun z => q.2.2.2.2.1 (iff4.mp z)⟩)]
      refine mj_r_pure rfl rfl ?_
      refine mj_r_getf rfl rfl ht rfl ?_
      refine mj_r_pure rfl rfl ?_
      refine mj_r_cV0 (ci := 2)  rfl li_Top_102 ck_Court_claimAt iv_Court_claimAt (by decide) ((K_Court_claimAt_t (cX h m0 nd0) nx i nc ca _ _ _ fc R.1 R.2.2.1 h40 hi2 k1)) rfl rfl (Nat.le_of_ble_eq_true rfl) rfl (R1 m0 nd0).1 ?_
      rintro _ _ _ ⟨rfl, rfl, rfl⟩ _
      iterate 2 (refine mj_r_pure rfl rfl ?_)
      refine mj_r_pure rfl rfl ?_
      iterate 2 (refine mj_r_pure rfl rfl ?_)
      refine mj_r_getf rfl rfl k2 rfl ?_
      rw [e17]
      refine mj_r_cV0 (ci := 9)  rfl li_Top_94 ck_Top_batchAt iv_Top_batchAt (by decide) ((K_Top_batchAt_t (cX h m0 nd0) nx nb pa bb a fb h8 ht hfb hbb hf)) rfl rfl (Nat.le_of_ble_eq_true rfl) rfl (show (cX h m0 nd0).1 9 0 = some _ from ht) ?_
      rintro _ _ _ ⟨rfl, rfl, rfl⟩ _
      iterate 2 (refine mj_r_pure rfl rfl ?_)
      refine mj_r_pure rfl rfl ?_
      refine mj_r_pure rfl rfl ?_
      refine mj_r_getf rfl rfl ht rfl ?_
      iterate 2 (refine mj_r_pure rfl rfl ?_)
      refine mj_r_cV0 (ci := 5)  rfl li_Top_111 ck_Machine_run iv_Machine_run (by decide) ((K_Machine_run h nx a pp fa ln 0 _ (sp_P S bb) F m0 nd0 g2 g5 (by omega) g7.pr (hwO.1.ok bb) (hwO.op bb) (by omega))) rfl rfl (Nat.le_of_ble_eq_true rfl) rfl rfl ?_
      rintro _ _ _ ⟨rfl, rfl, m1, rfl, hm1⟩ _
      refine mj_r_pure rfl rfl ?_
      refine mj_r_getf rfl rfl ht rfl ?_
      iterate 3 (refine mj_r_pure rfl rfl ?_)
      refine mj_r_getf rfl rfl ht rfl ?_
      refine mj_r_cV0 (ci := 5)  rfl li_Top_73 ck_Machine_digestOfTree iv_Machine_digestOfTree (by decide) (K_Machine_digestOfTree h nx m1 nd0) rfl rfl (Nat.le_of_ble_eq_true rfl) rfl rfl ?_
      rintro _ _ _ ⟨rfl, rfl, ndf, rfl⟩ _
      refine mj_r_pure rfl rfl ?_
      refine mj_r_getf rfl rfl g2 rfl ?_
      refine mj_r_cV (ci := 2) (kc := 0) (ks := 0) rfl li_Top_118 ck_Court_openDispute iv_Court_openDispute (by decide) ((K_Court_openDispute_f (cX h m1 ndf) nx ca _ oc _ _ p _ _ _ _ _ _ _ _ _ (S.1 14) (R1 m1 ndf).1 R.2.1 k2 (by exact cc0))) rfl rfl (Nat.le_of_ble_eq_true rfl) rfl (R1 m1 ndf).1 ?_
      rintro _ _ _ ⟨rfl, rfl, rfl⟩ _
      exact mj_r_iret rfl rfl rfl ((cn esp ⟨by omega, by omega⟩ (fC.rf (cX h m1 ndf)) (hi.x m1 ndf) h4))
  · have esp : sp_dispute S p c nd = (-1, S) := by rw [sp_dispute, if_neg (fun q => a1 q.2.1)]
    refine mj_r_pure rfl rfl ?_
    refine mj_r_getf rfl rfl ht rfl ?_
    refine mj_r_pure rfl rfl ?_
    refine mj_r_cV0 (ci := 2)  rfl li_Top_102 ck_Court_claimAt iv_Court_claimAt (by decide) ((K_Court_claimAt_f _ nx _ _ _ _ c R.1 (by rw [← hnc]; exact a1))) rfl rfl (Nat.le_of_ble_eq_true rfl) rfl R.1 ?_
    rintro _ _ _ ⟨rfl, rfl, rfl⟩ _
    iterate 2 (refine mj_r_pure rfl rfl ?_)
    refine mj_r_pure rfl rfl ?_
    refine mj_r_pure rfl rfl ?_
    exact mj_r_iret rfl rfl rfl ((cn (m := m0) (ndf := nd0) esp ⟨by omega, by omega⟩ (by rw [eh]; exact fC.rf _) hi h4))
