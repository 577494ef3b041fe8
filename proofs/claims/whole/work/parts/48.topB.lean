/-! the class: tell, choose, clear -/
theorem m1_0 : ¬ (-1 : Int32) = 0 := by decide
theorem m1_1 : ¬ (-1 : Int32) = 1 := by decide
theorem m1_2 : ¬ (-1 : Int32) = 2 := by decide
theorem turn_t {S : rf_S} {nd d : Nat} {to : Nat → Int32} {md : Nat → Int64} (P : pT S nd to md) (hd : d < nd) (v : Int32) (hv : ¬ (-1 : Int32) = v) : sp_turn (S.1 24 d) (S.1 25 d) (S.1 26 d) (to d) = v ↔ S.1 24 d = 0 ∧ S.1 30 d = v := by
  by_cases h0 : S.1 24 d = 0
  · rw [turn_eq P hd h0]
    exact ⟨fun q => ⟨h0, q⟩, fun q => q.2⟩
  · rw [sp_turn, if_neg h0]
    exact ⟨fun q => absurd q hv, fun q => absurd q.1 h0⟩
set_option maxRecDepth 20000 in
set_option maxHeartbeats 4000000 in
theorem K_Top_tell (h : mj_H) (S : rf_S) (nx nb pa nc nd T : Nat) (d : Int32) (dg : Int64) (ht : h.1 9 0 = some (oTop nb pa)) (hi : iC h S nx nc nd T) : cKc me_Top_tell [.ref 0, .int d, .long dg] h nx nc nd T (if isN d (nI nd) then (sp_tell S d.toNatClampNeg dg).1 else -1, if isN d (nI nd) then (sp_tell S d.toNatClampNeg dg).2 else S) := by
  refine mj_K.of ok_Top_tell ck_Top_tell (Nat.le_of_ble_eq_true rfl) ?_
  obtain ⟨od, to, md, oc, fc, fd, R, P⟩ := id hi
  have hw := P.1.1
  have h80 := hw.2.1
  by_cases a1 : isN d (nI nd)
  · obtain ⟨j, hj, rfl⟩ := isN_nat (n := nd) (by omega) a1
    rw [if_pos a1, if_pos a1, nI_clamp (by omega)]
    obtain ⟨a, c, ca, p, g1, g2, g3, g4, g5, g6, g7, g8, g9⟩ := R.dis hw hj
    have hturn := turn_t P.2.2.1 hj 0 m1_0
    by_cases c0 : S.1 24 j = 0 ∧ S.1 30 j = 0
    · rw [show sp_tell S j dg = ((S.1 25 j + S.1 26 j) / 2, sA (sA (sL S 29 j dg) 30 j 1) 33 j (S.1 33 j + 1)) by rw [sp_tell, if_pos c0]]
      have eR : cS (mj_so h 3 a (oDis (nI p) ca (S.1 24 j) (S.1 25 j) (S.1 26 j) (S.2 27 j) (S.2 28 j) 1 dg (S.1 31 j) (S.1 32 j) (S.1 33 j + 1))) (sA (sA (sL S 29 j dg) 30 j 1) 33 j (S.1 33 j + 1)) od (upd to j 1) (vp_updL md j dg) oc fc fd nx nc nd := by
        refine (R.setD hj g1 _).ext (fun i hi => rfl) (fun i hi => ?_)
        show oDis (S.1 22 i) ((fc (S.1 23 i).toNatClampNeg).getD 0) (S.1 24 i) (S.1 25 i) (S.1 26 i) (S.2 27 i) (S.2 28 i) (upd to j 1 i) (vp_updL md j dg i) (S.1 31 i) (S.1 32 i) (upd (S.1 33) j (S.1 33 j + 1) i) = _
        by_cases e : i = j
        · subst e
          rw [ul_s, pk_us, pk_us, pk_uLs, g9, g5, g6]
          rfl
        · rw [ul_n e, pk_un e, pk_un e, pk_uLn e]
          rfl
      have eP : pAll (sA (sA (sL S 29 j dg) 30 j 1) 33 j (S.1 33 j + 1)) nc nd T od oc (upd to j 1) (vp_updL md j dg) := by
        refine ⟨P.1, P.2.1, fun i hi => ?_, P.2.2.2⟩
        show upd (S.1 30) j 1 i = (if S.1 26 i = S.1 25 i + 1 then 2 else if upd to j 1 i = 0 then 0 else 1) ∧ vp_updL (S.2 29) j dg i = (if upd to j 1 i = 0 then 0 else vp_updL md j dg i)
        by_cases e : i = j
        · subst e
          have hne : ¬ S.1 26 i = S.1 25 i + 1 := fun q => by
            have := (P.2.2.1 i hi).1
            rw [if_pos q, c0.2] at this
            exact absurd this (by decide)
          rw [pk_us, pk_us, pk_uLs, pk_uLs, if_neg hne, if_neg (by decide), if_neg (by decide)]
          exact ⟨rfl, rfl⟩
        · rw [pk_un e, pk_un e, pk_uLn e, pk_uLn e]
          exact P.2.2.1 i hi
      refine mj_r_pure rfl rfl ?_
      refine mj_r_getf rfl rfl ht rfl ?_
      refine mj_r_pure rfl rfl ?_
      refine mj_r_cV0 (ci := 2)  rfl li_Top_122 ck_Court_disputeAt iv_Court_disputeAt (by decide) ((K_Court_disputeAt_t _ nx j nd a _ _ _ fd R.1 R.2.2.2.1 h80 hj g1)) rfl rfl (Nat.le_of_ble_eq_true rfl) rfl R.1 ?_
      rintro _ _ _ ⟨rfl, rfl, rfl⟩ _
      iterate 2 (refine mj_r_pure rfl rfl ?_)
      refine mj_r_pure rfl rfl ?_
      refine mj_r_pure rfl rfl ?_
      refine mj_r_cV0 (ci := 3)  rfl li_Top_126 ck_Dispute_turn iv_Dispute_turn (by decide) ((K_Dispute_turn _ a nx _ _ _ _ _ _ _ _ _ _ _ _ g8)) rfl rfl (Nat.le_of_ble_eq_true rfl) rfl g8 ?_
      rintro _ _ _ ⟨rfl, rfl, rfl⟩ _
      refine mj_r_if_eq rfl (fun z1 => ?_) (fun z1 => absurd z1 (fun q => q (hturn.mpr c0)))
      iterate 2 (refine mj_r_pure rfl rfl ?_)
      refine mj_r_cV0 (ci := 3)  rfl li_Top_132 ck_Dispute_takeMiddle iv_Dispute_takeMiddle (by decide) ((K_Dispute_takeMiddle _ a nx _ _ _ _ _ _ _ _ _ _ _ _ dg g8)) rfl rfl (Nat.le_of_ble_eq_true rfl) rfl g8 ?_
      rintro _ _ _ ⟨rfl, rfl, rfl⟩ _
      refine mj_r_pure rfl rfl ?_
      refine mj_r_cV0 (ci := 3)  rfl li_Top_136 ck_Dispute_middle iv_Dispute_middle (by decide) ((K_Dispute_middle _ a nx _ _ _ _ _ _ _ _ _ _ _ _ so_self)) rfl rfl (Nat.le_of_ble_eq_true rfl) rfl so_self ?_
      rintro _ _ _ ⟨rfl, rfl, rfl⟩ _
      exact mj_r_iret rfl rfl rfl ((cc rfl ((fC.rf _).so (Or.inr (Or.inr rfl))) ⟨od, upd to j 1, vp_updL md j dg, oc, fc, fd, eR, eP⟩))
    · rw [show sp_tell S j dg = (-1, S) by rw [sp_tell, if_neg c0]]
      refine mj_r_pure rfl rfl ?_
      refine mj_r_getf rfl rfl ht rfl ?_
      refine mj_r_pure rfl rfl ?_
      refine mj_r_cV0 (ci := 2)  rfl li_Top_122 ck_Court_disputeAt iv_Court_disputeAt (by decide) ((K_Court_disputeAt_t _ nx j nd a _ _ _ fd R.1 R.2.2.2.1 h80 hj g1)) rfl rfl (Nat.le_of_ble_eq_true rfl) rfl R.1 ?_
      rintro _ _ _ ⟨rfl, rfl, rfl⟩ _
      iterate 2 (refine mj_r_pure rfl rfl ?_)
      refine mj_r_pure rfl rfl ?_
      refine mj_r_pure rfl rfl ?_
      refine mj_r_cV0 (ci := 3)  rfl li_Top_126 ck_Dispute_turn iv_Dispute_turn (by decide) ((K_Dispute_turn _ a nx _ _ _ _ _ _ _ _ _ _ _ _ g8)) rfl rfl (Nat.le_of_ble_eq_true rfl) rfl g8 ?_
      rintro _ _ _ ⟨rfl, rfl, rfl⟩ _
      refine mj_r_if_eq rfl (fun z1 => absurd z1 (fun q => c0 (hturn.mp q))) (fun z1 => ?_)
      refine mj_r_pure rfl rfl ?_
      exact mj_r_iret rfl rfl rfl ((cc rfl (fC.rf _) hi))
  · rw [if_neg a1, if_neg a1]
    refine mj_r_pure rfl rfl ?_
    refine mj_r_getf rfl rfl ht rfl ?_
    refine mj_r_pure rfl rfl ?_
    refine mj_r_cV0 (ci := 2)  rfl li_Top_122 ck_Court_disputeAt iv_Court_disputeAt (by decide) ((K_Court_disputeAt_f _ nx _ _ _ _ d R.1 a1)) rfl rfl (Nat.le_of_ble_eq_true rfl) rfl R.1 ?_
    rintro _ _ _ ⟨rfl, rfl, rfl⟩ _
    iterate 2 (refine mj_r_pure rfl rfl ?_)
    refine mj_r_pure rfl rfl ?_
    refine mj_r_pure rfl rfl ?_
    exact mj_r_iret rfl rfl rfl ((cc rfl (fC.rf _) hi))
set_option maxRecDepth 20000 in
set_option maxHeartbeats 4000000 in
theorem K_Top_choose (h : mj_H) (S : rf_S) (nx nb pa nc nd T : Nat) (d o : Int32) (ht : h.1 9 0 = some (oTop nb pa)) (hi : iC h S nx nc nd T) : cKc me_Top_choose [.ref 0, .int d, .int o] h nx nc nd T (sp_choose S d o) := by
  refine mj_K.of ok_Top_choose ck_Top_choose (Nat.le_of_ble_eq_true rfl) ?_
  obtain ⟨od, to, md, oc, fc, fd, R, P⟩ := id hi
  have hw := P.1.1
  have hnd := hw.1
  have h80 := hw.2.1
  by_cases a1 : isN d (S.1 21 0)
  · obtain ⟨j, hj, rfl⟩ := isN_nat (n := nd) (by omega) (by rw [← hnd]; exact a1)
    have ej : (nI j).toNatClampNeg = j := nI_clamp (by omega)
    obtain ⟨a, c, ca, p, g1, g2, g3, g4, g5, g6, g7, g8, g9⟩ := R.dis hw hj
    have hturn := turn_t P.2.2.1 hj 1 m1_1
    by_cases c0 : S.1 24 j = 0 ∧ S.1 30 j = 1
    · have hto : ¬ to j = 0 := fun q => by
        have := (P.2.2.1 j hj).1
        rw [c0.2, if_pos q] at this
        split at this
        · exact absurd this (by decide)
        · exact absurd this (by decide)
      have e29 : S.2 29 j = md j := by rw [(P.2.2.1 j hj).2, if_neg hto]
      by_cases co : 0 ≤ o ∧ o ≤ 1
      · have esp : sp_choose S (nI j) o = ((sp_choose1 S j o).1 26 j - (sp_choose1 S j o).1 25 j, sp_choose1 S j o) := by
          rw [sp_choose, ej, if_pos ⟨a1, c0.1, c0.2, co.1, co.2⟩]
        rw [esp]
        obtain ⟨w, hw2, rfl⟩ := le_nat co.1
        have hw1 : w ≤ 1 := (nI_leI (a := w) (b := 1) hw2 (by omega)).mp co.2
        rcases Nat.lt_or_ge w 1 with w0 | w1
        · have : w = 0 := by omega
          subst this
          have e2 : sp_ch2 S j (nI 0) = sL (sL (sA S 25 j ((S.1 25 j + S.1 26 j) / 2)) 27 j (md j)) 29 j 0 := by unfold sp_ch2; rw [if_pos (show nI 0 = 0 from rfl), e29]
          have e1 : sp_choose1 S j (nI 0) = sA (sA (sL (sL (sA S 25 j ((S.1 25 j + S.1 26 j) / 2)) 27 j (md j)) 29 j 0) 30 j (if S.1 26 j = (S.1 25 j + S.1 26 j) / 2 + 1 then 2 else 0)) 33 j (S.1 33 j + 1) := by
            unfold sp_choose1
            rw [e2]
            show sA (sA _ 30 j (if S.1 26 j = upd (S.1 25) j ((S.1 25 j + S.1 26 j) / 2) j + 1 then 2 else 0)) 33 j _ = _
            rw [pk_us]
          rw [e1]
          have eR : cS (mj_so h 3 a (oDis (nI p) ca (S.1 24 j) ((S.1 25 j + S.1 26 j) / 2) (S.1 26 j) (md j) (S.2 28 j) 0 (md j) (S.1 31 j) (S.1 32 j) (S.1 33 j + 1))) (sA (sA (sL (sL (sA S 25 j ((S.1 25 j + S.1 26 j) / 2)) 27 j (md j)) 29 j 0) 30 j (if S.1 26 j = (S.1 25 j + S.1 26 j) / 2 + 1 then 2 else 0)) 33 j (S.1 33 j + 1)) od (upd to j 0) md oc fc fd nx nc nd := by
            refine (R.setD hj g1 _).ext (fun i hi => rfl) (fun i hi => ?_)
            show oDis (S.1 22 i) ((fc (S.1 23 i).toNatClampNeg).getD 0) (S.1 24 i) (upd (S.1 25) j ((S.1 25 j + S.1 26 j) / 2) i) (S.1 26 i) (vp_updL (S.2 27) j (md j) i) (S.2 28 i) (upd to j 0 i) (md i) (S.1 31 i) (S.1 32 i) (upd (S.1 33) j (S.1 33 j + 1) i) = _
            by_cases e : i = j
            · subst e
              rw [ul_s, pk_us, pk_us, pk_us, pk_uLs, g9, g5, g6]
              rfl
            · rw [ul_n e, pk_un e, pk_un e, pk_un e, pk_uLn e]
              rfl
          have eP : pAll (sA (sA (sL (sL (sA S 25 j ((S.1 25 j + S.1 26 j) / 2)) 27 j (md j)) 29 j 0) 30 j (if S.1 26 j = (S.1 25 j + S.1 26 j) / 2 + 1 then 2 else 0)) 33 j (S.1 33 j + 1)) nc nd T od oc (upd to j 0) md := by
            refine ⟨P.1, P.2.1, fun i hi => ?_, P.2.2.2⟩
            show upd (S.1 30) j (if S.1 26 j = (S.1 25 j + S.1 26 j) / 2 + 1 then 2 else 0) i = (if S.1 26 i = upd (S.1 25) j ((S.1 25 j + S.1 26 j) / 2) i + 1 then 2 else if upd to j 0 i = 0 then 0 else 1) ∧ vp_updL (S.2 29) j 0 i = (if upd to j 0 i = 0 then 0 else md i)
            by_cases e : i = j
            · subst e
              rw [pk_us, pk_us, pk_us, pk_uLs, if_pos rfl, if_pos rfl]
              exact ⟨rfl, rfl⟩
            · rw [pk_un e, pk_un e, pk_un e, pk_uLn e]
              exact P.2.2.1 i hi
          refine mj_r_pure rfl rfl ?_
          refine mj_r_getf rfl rfl ht rfl ?_
          refine mj_r_pure rfl rfl ?_
          refine mj_r_cV0 (ci := 2)  rfl li_Top_122 ck_Court_disputeAt iv_Court_disputeAt (by decide) ((K_Court_disputeAt_t _ nx j nd a _ _ _ fd R.1 R.2.2.2.1 h80 hj g1)) rfl rfl (Nat.le_of_ble_eq_true rfl) rfl R.1 ?_
          rintro _ _ _ ⟨rfl, rfl, rfl⟩ _
          iterate 2 (refine mj_r_pure rfl rfl ?_)
          refine mj_r_pure rfl rfl ?_
          refine mj_r_pure rfl rfl ?_
          refine mj_r_cV0 (ci := 3)  rfl li_Top_126 ck_Dispute_turn iv_Dispute_turn (by decide) ((K_Dispute_turn _ a nx _ _ _ _ _ _ _ _ _ _ _ _ g8)) rfl rfl (Nat.le_of_ble_eq_true rfl) rfl g8 ?_
          rintro _ _ _ ⟨rfl, rfl, rfl⟩ _
          refine mj_r_pure rfl rfl ?_
          refine mj_r_icmp_ne rfl (fun z1 => absurd z1 (fun q => q (hturn.mpr c0))) (fun z1 => ?_)
          refine mj_r_pure rfl rfl ?_
          refine mj_r_if_lt rfl (fun z2 => absurd z2 (by decide +kernel)) (fun z2 => ?_)
          iterate 2 (refine mj_r_pure rfl rfl ?_)
          refine mj_r_icmp_le rfl (fun z3 => ?_) (fun z3 => absurd z3 (by decide +kernel))
          iterate 3 (refine mj_r_pure rfl rfl ?_)
          refine mj_r_icmp_ne rfl (fun z4 => ?_) (fun z4 => absurd z4 (by decide +kernel))
          refine mj_r_pure rfl rfl ?_
          refine mj_r_cV0 (ci := 3)  rfl li_Top_139 ck_Dispute_halve iv_Dispute_halve (by decide) ((K_Dispute_halve_f _ a nx _ _ _ _ _ _ _ _ _ _ _ _ g8)) rfl rfl (Nat.le_of_ble_eq_true rfl) rfl g8 ?_
          rintro _ _ _ ⟨rfl, rfl, rfl⟩ _
          refine mj_r_pure rfl rfl ?_
          refine mj_r_getf rfl rfl so_self rfl ?_
          refine mj_r_pure rfl rfl ?_
          refine mj_r_getf rfl rfl so_self rfl ?_
          refine mj_r_pure rfl rfl ?_
          exact mj_r_iret rfl rfl rfl ((cc (by show (S.1 26 j - upd (S.1 25) j ((S.1 25 j + S.1 26 j) / 2) j, _) = _; rw [pk_us]) ((fC.rf _).so (Or.inr (Or.inr rfl))) ⟨od, upd to j 0, md, oc, fc, fd, eR, eP⟩))
        · have : w = 1 := by omega
          subst this
          have e2 : sp_ch2 S j (nI 1) = sL (sL (sA S 26 j ((S.1 25 j + S.1 26 j) / 2)) 28 j (md j)) 29 j 0 := by unfold sp_ch2; rw [if_neg (show ¬ nI 1 = 0 by decide +kernel), e29]
          have e1 : sp_choose1 S j (nI 1) = sA (sA (sL (sL (sA S 26 j ((S.1 25 j + S.1 26 j) / 2)) 28 j (md j)) 29 j 0) 30 j (if (S.1 25 j + S.1 26 j) / 2 = S.1 25 j + 1 then 2 else 0)) 33 j (S.1 33 j + 1) := by
            unfold sp_choose1
            rw [e2]
            show sA (sA _ 30 j (if upd (S.1 26) j ((S.1 25 j + S.1 26 j) / 2) j = S.1 25 j + 1 then 2 else 0)) 33 j _ = _
            rw [pk_us]
          rw [e1]
          have eR : cS (mj_so h 3 a (oDis (nI p) ca (S.1 24 j) (S.1 25 j) ((S.1 25 j + S.1 26 j) / 2) (S.2 27 j) (md j) 0 (md j) (S.1 31 j) (S.1 32 j) (S.1 33 j + 1))) (sA (sA (sL (sL (sA S 26 j ((S.1 25 j + S.1 26 j) / 2)) 28 j (md j)) 29 j 0) 30 j (if (S.1 25 j + S.1 26 j) / 2 = S.1 25 j + 1 then 2 else 0)) 33 j (S.1 33 j + 1)) od (upd to j 0) md oc fc fd nx nc nd := by
            refine (R.setD hj g1 _).ext (fun i hi => rfl) (fun i hi => ?_)
            show oDis (S.1 22 i) ((fc (S.1 23 i).toNatClampNeg).getD 0) (S.1 24 i) (S.1 25 i) (upd (S.1 26) j ((S.1 25 j + S.1 26 j) / 2) i) (S.2 27 i) (vp_updL (S.2 28) j (md j) i) (upd to j 0 i) (md i) (S.1 31 i) (S.1 32 i) (upd (S.1 33) j (S.1 33 j + 1) i) = _
            by_cases e : i = j
            · subst e
              rw [ul_s, pk_us, pk_us, pk_us, pk_uLs, g9, g5, g6]
              rfl
            · rw [ul_n e, pk_un e, pk_un e, pk_un e, pk_uLn e]
              rfl
          have eP : pAll (sA (sA (sL (sL (sA S 26 j ((S.1 25 j + S.1 26 j) / 2)) 28 j (md j)) 29 j 0) 30 j (if (S.1 25 j + S.1 26 j) / 2 = S.1 25 j + 1 then 2 else 0)) 33 j (S.1 33 j + 1)) nc nd T od oc (upd to j 0) md := by
            refine ⟨P.1, P.2.1, fun i hi => ?_, P.2.2.2⟩
            show upd (S.1 30) j (if (S.1 25 j + S.1 26 j) / 2 = S.1 25 j + 1 then 2 else 0) i = (if upd (S.1 26) j ((S.1 25 j + S.1 26 j) / 2) i = S.1 25 i + 1 then 2 else if upd to j 0 i = 0 then 0 else 1) ∧ vp_updL (S.2 29) j 0 i = (if upd to j 0 i = 0 then 0 else md i)
            by_cases e : i = j
            · subst e
              rw [pk_us, pk_us, pk_us, pk_uLs, if_pos rfl, if_pos rfl]
              exact ⟨rfl, rfl⟩
            · rw [pk_un e, pk_un e, pk_un e, pk_uLn e]
              exact P.2.2.1 i hi
          refine mj_r_pure rfl rfl ?_
          refine mj_r_getf rfl rfl ht rfl ?_
          refine mj_r_pure rfl rfl ?_
          refine mj_r_cV0 (ci := 2)  rfl li_Top_122 ck_Court_disputeAt iv_Court_disputeAt (by decide) ((K_Court_disputeAt_t _ nx j nd a _ _ _ fd R.1 R.2.2.2.1 h80 hj g1)) rfl rfl (Nat.le_of_ble_eq_true rfl) rfl R.1 ?_
          rintro _ _ _ ⟨rfl, rfl, rfl⟩ _
          iterate 2 (refine mj_r_pure rfl rfl ?_)
          refine mj_r_pure rfl rfl ?_
          refine mj_r_pure rfl rfl ?_
          refine mj_r_cV0 (ci := 3)  rfl li_Top_126 ck_Dispute_turn iv_Dispute_turn (by decide) ((K_Dispute_turn _ a nx _ _ _ _ _ _ _ _ _ _ _ _ g8)) rfl rfl (Nat.le_of_ble_eq_true rfl) rfl g8 ?_
          rintro _ _ _ ⟨rfl, rfl, rfl⟩ _
          refine mj_r_pure rfl rfl ?_
          refine mj_r_icmp_ne rfl (fun z1 => absurd z1 (fun q => q (hturn.mpr c0))) (fun z1 => ?_)
          refine mj_r_pure rfl rfl ?_
          refine mj_r_if_lt rfl (fun z2 => absurd z2 (by decide +kernel)) (fun z2 => ?_)
          iterate 2 (refine mj_r_pure rfl rfl ?_)
          refine mj_r_icmp_le rfl (fun z3 => ?_) (fun z3 => absurd z3 (by decide +kernel))
          iterate 3 (refine mj_r_pure rfl rfl ?_)
          refine mj_r_icmp_ne rfl (fun z4 => absurd z4 (by decide +kernel)) (fun z4 => ?_)
          iterate 2 (refine mj_r_pure rfl rfl ?_)
          refine mj_r_cV0 (ci := 3)  rfl li_Top_139 ck_Dispute_halve iv_Dispute_halve (by decide) ((K_Dispute_halve_t _ a nx _ _ _ _ _ _ _ _ _ _ _ _ g8)) rfl rfl (Nat.le_of_ble_eq_true rfl) rfl g8 ?_
          rintro _ _ _ ⟨rfl, rfl, rfl⟩ _
          refine mj_r_pure rfl rfl ?_
          refine mj_r_getf rfl rfl so_self rfl ?_
          refine mj_r_pure rfl rfl ?_
          refine mj_r_getf rfl rfl so_self rfl ?_
          refine mj_r_pure rfl rfl ?_
          exact mj_r_iret rfl rfl rfl ((cc (by show (upd (S.1 26) j ((S.1 25 j + S.1 26 j) / 2) j - S.1 25 j, _) = _; rw [pk_us]) ((fC.rf _).so (Or.inr (Or.inr rfl))) ⟨od, upd to j 0, md, oc, fc, fd, eR, eP⟩))
      · rw [show sp_choose S (nI j) o = (-1, S) by rw [sp_choose, if_neg (fun q => co q.2.2.2)]]
        refine mj_r_pure rfl rfl ?_
        refine mj_r_getf rfl rfl ht rfl ?_
        refine mj_r_pure rfl rfl ?_
        refine mj_r_cV0 (ci := 2)  rfl li_Top_122 ck_Court_disputeAt iv_Court_disputeAt (by decide) ((K_Court_disputeAt_t _ nx j nd a _ _ _ fd R.1 R.2.2.2.1 h80 hj g1)) rfl rfl (Nat.le_of_ble_eq_true rfl) rfl R.1 ?_
        rintro _ _ _ ⟨rfl, rfl, rfl⟩ _
        iterate 2 (refine mj_r_pure rfl rfl ?_)
        refine mj_r_pure rfl rfl ?_
        refine mj_r_pure rfl rfl ?_
        refine mj_r_cV0 (ci := 3)  rfl li_Top_126 ck_Dispute_turn iv_Dispute_turn (by decide) ((K_Dispute_turn _ a nx _ _ _ _ _ _ _ _ _ _ _ _ g8)) rfl rfl (Nat.le_of_ble_eq_true rfl) rfl g8 ?_
        rintro _ _ _ ⟨rfl, rfl, rfl⟩ _
        refine mj_r_pure rfl rfl ?_
        refine mj_r_icmp_ne rfl (fun z1 => absurd z1 (fun q => q (hturn.mpr c0))) (fun z1 => ?_)
        refine mj_r_pure rfl rfl ?_
        refine mj_r_if_lt rfl (fun z2 => ?_) (fun z2 => ?_)
        · refine mj_r_pure rfl rfl ?_
          exact mj_r_iret rfl rfl rfl ((cc rfl (fC.rf _) hi))
        · iterate 2 (refine mj_r_pure rfl rfl ?_)
          refine mj_r_icmp_le rfl (fun z3 => ?_) (fun z3 => ?_)
          · exact absurd ⟨nlt0_le z2, z3⟩ co
          · refine mj_r_pure rfl rfl ?_
            exact mj_r_iret rfl rfl rfl ((cc rfl (fC.rf _) hi))
    · rw [show sp_choose S (nI j) o = (-1, S) by rw [sp_choose, ej, if_neg (fun q => c0 ⟨q.2.1, q.2.2.1⟩)]]
      refine mj_r_pure rfl rfl ?_
      refine mj_r_getf rfl rfl ht rfl ?_
      refine mj_r_pure rfl rfl ?_
      refine mj_r_cV0 (ci := 2)  rfl li_Top_122 ck_Court_disputeAt iv_Court_disputeAt (by decide) ((K_Court_disputeAt_t _ nx j nd a _ _ _ fd R.1 R.2.2.2.1 h80 hj g1)) rfl rfl (Nat.le_of_ble_eq_true rfl) rfl R.1 ?_
      rintro _ _ _ ⟨rfl, rfl, rfl⟩ _
      iterate 2 (refine mj_r_pure rfl rfl ?_)
      refine mj_r_pure rfl rfl ?_
      refine mj_r_pure rfl rfl ?_
      refine mj_r_cV0 (ci := 3)  rfl li_Top_126 ck_Dispute_turn iv_Dispute_turn (by decide) ((K_Dispute_turn _ a nx _ _ _ _ _ _ _ _ _ _ _ _ g8)) rfl rfl (Nat.le_of_ble_eq_true rfl) rfl g8 ?_
      rintro _ _ _ ⟨rfl, rfl, rfl⟩ _
      refine mj_r_pure rfl rfl ?_
      refine mj_r_icmp_ne rfl (fun z1 => ?_) (fun z1 => absurd z1 (fun q => c0 (hturn.mp q)))
      refine mj_r_pure rfl rfl ?_
      exact mj_r_iret rfl rfl rfl ((cc rfl (fC.rf _) hi))
  · rw [show sp_choose S d o = (-1, S) by rw [sp_choose, if_neg (fun q => a1 q.1)]]
    refine mj_r_pure rfl rfl ?_
    refine mj_r_getf rfl rfl ht rfl ?_
    refine mj_r_pure rfl rfl ?_
    refine mj_r_cV0 (ci := 2)  rfl li_Top_122 ck_Court_disputeAt iv_Court_disputeAt (by decide) ((K_Court_disputeAt_f _ nx _ _ _ _ d R.1 (by rw [← hnd]; exact a1))) rfl rfl (Nat.le_of_ble_eq_true rfl) rfl R.1 ?_
    rintro _ _ _ ⟨rfl, rfl, rfl⟩ _
    iterate 2 (refine mj_r_pure rfl rfl ?_)
    refine mj_r_pure rfl rfl ?_
    refine mj_r_pure rfl rfl ?_
    exact mj_r_iret rfl rfl rfl ((cc rfl (fC.rf _) hi))
