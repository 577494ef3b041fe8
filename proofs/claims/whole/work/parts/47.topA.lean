/-! the class: questions -/
section TQ
variable {h : mj_H} {S : rf_S} {nx nb pa nc nd T : Nat}
set_option maxRecDepth 20000 in
set_option maxHeartbeats 4000000 in
theorem K_Top_purse (h : mj_H) (S : rf_S) (nx nb pa nc nd T : Nat) (p : Int32) (ht : h.1 9 0 = some (oTop nb pa)) (hi : iC h S nx nc nd T) : cK me_Top_purse [.ref 0, .int p] h nx (some (.int (sp_purse S p))) h := by
  refine mj_K.of ok_Top_purse ck_Top_purse (Nat.le_of_ble_eq_true rfl) ?_
  obtain ⟨od, to, md, oc, fc, fd, R, P⟩ := hi
  by_cases a1 : isN p 8
  · obtain ⟨j, hj, rfl⟩ := isN_nat (n := 8) (by omega) a1
    refine mj_r_pure rfl rfl ?_
    refine mj_r_callS (kc := 0) (ks := 0) rfl li_Top_242 ck_Top_isPlayer iv_Top_isPlayer (by decide) rfl (K_Top_isPlayer _ _ nx) rfl rfl (Nat.le_of_ble_eq_true rfl) ?_
    rintro _ _ _ ⟨rfl, rfl, rfl⟩ _
    rw [bI_t a1]
    refine mj_r_if_eq rfl (fun c1 => absurd c1 (by decide)) (fun c1 => ?_)
    refine mj_r_pure rfl rfl ?_
    refine mj_r_getf rfl rfl ht rfl ?_
    refine mj_r_getf rfl rfl R.1 rfl ?_
    refine mj_r_pure rfl rfl ?_
    refine cx_iald rfl R.2.1 (by first | rfl | assumption) (by omega) ?_
    refine mj_r_pure rfl rfl ?_
    exact mj_r_iret rfl rfl rfl ⟨by rw [sp_purse, if_pos a1, nI_clamp (by omega)], rfl, rfl⟩
  · refine mj_r_pure rfl rfl ?_
    refine mj_r_callS (kc := 0) (ks := 0) rfl li_Top_242 ck_Top_isPlayer iv_Top_isPlayer (by decide) rfl (K_Top_isPlayer _ _ nx) rfl rfl (Nat.le_of_ble_eq_true rfl) ?_
    rintro _ _ _ ⟨rfl, rfl, rfl⟩ _
    rw [bI_f a1]
    refine mj_r_if_eq rfl (fun c1 => ?_) (fun c1 => absurd c1 (fun q => q rfl))
    refine mj_r_pure rfl rfl ?_
    exact mj_r_iret rfl rfl rfl ⟨by rw [sp_purse, if_neg a1], rfl, rfl⟩
set_option maxRecDepth 20000 in
set_option maxHeartbeats 4000000 in
theorem K_Top_ofClaim (h : mj_H) (S : rf_S) (nx nb pa nc nd T : Nat) (c w : Int32) (ht : h.1 9 0 = some (oTop nb pa)) (hi : iC h S nx nc nd T) : cK me_Top_ofClaim [.ref 0, .int c, .int w] h nx (some (.int (sp_ofClaim S c w nd))) h := by
  refine mj_K.of ok_Top_ofClaim ck_Top_ofClaim (Nat.le_of_ble_eq_true rfl) ?_
  obtain ⟨od, to, md, oc, fc, fd, R, P⟩ := hi
  have hnc := P.1.1.2.2.1
  have h40 := P.1.1.2.2.2.1
  have h80 := P.1.1.2.1
  by_cases a1 : isN c (S.1 15 0)
  · obtain ⟨j, hj, rfl⟩ := isN_nat (n := nc) (by omega) (by rw [← hnc]; exact a1)
    rw [show sp_ofClaim S (nI j) w nd = sp_ofClaim1 S j w nd by rw [sp_ofClaim, if_pos a1, nI_clamp (by omega)]]
    obtain ⟨a, g1, g2, -⟩ := R.c hj
    unfold Cof at g2
    have eod := P.1.2.1 j hj
    have etl : sp_tl (S.1 19 j) (od j) (S.1 20 j) (S.1 13 0) = sp_left S j nd := by
      rw [sp_tl, sp_left, eod]
      by_cases c0 : S.1 19 j = 0
      · rw [if_pos c0, if_pos c0]
        by_cases c1 : nI (sp_open S (nI j) nd) ≤ 0
        · rw [if_pos c1, if_pos c1]
          rw [Int32.add_comm, Int32.sub_eq_add_neg, Int32.sub_eq_add_neg, Int32.sub_eq_add_neg, Int32.neg_add, Int32.sub_eq_add_neg, Int32.neg_neg, Int32.add_comm (-S.1 13 0) (S.1 20 j), ← Int32.add_assoc]
        · rw [if_neg c1, if_neg c1]
      · rw [if_neg c0, if_neg c0]
    refine mj_r_pure rfl rfl ?_
    refine mj_r_getf rfl rfl ht rfl ?_
    refine mj_r_pure rfl rfl ?_
    refine mj_r_cV0 (ci := 2)  rfl li_Top_102 ck_Court_claimAt iv_Court_claimAt (by decide) ((K_Court_claimAt_t _ nx j nc a _ _ _ fc R.1 R.2.2.1 h40 hj g1)) rfl rfl (Nat.le_of_ble_eq_true rfl) rfl R.1 ?_
    rintro _ _ _ ⟨rfl, rfl, rfl⟩ _
    iterate 2 (refine mj_r_pure rfl rfl ?_)
    refine mj_r_pure rfl rfl ?_
    refine mj_r_pure rfl rfl ?_
    by_cases c_0 : w = 0
    · subst c_0
      refine mj_r_switch (t := 52) rfl (Or.inr ⟨by decide +kernel, by decide +kernel, 36, by decide +kernel, by decide +kernel⟩) ?_
      refine mj_r_pure rfl rfl ?_
      refine mj_r_getf rfl rfl g2 rfl ?_
      exact mj_r_iret rfl rfl rfl ⟨rfl, rfl, rfl⟩
    by_cases c_1 : w = 1
    · subst c_1
      refine mj_r_switch (t := 57) rfl (Or.inr ⟨by decide +kernel, by decide +kernel, 41, by decide +kernel, by decide +kernel⟩) ?_
      refine mj_r_pure rfl rfl ?_
      refine mj_r_getf rfl rfl g2 rfl ?_
      exact mj_r_iret rfl rfl rfl ⟨rfl, rfl, rfl⟩
    by_cases c_2 : w = 2
    · subst c_2
      refine mj_r_switch (t := 62) rfl (Or.inr ⟨by decide +kernel, by decide +kernel, 46, by decide +kernel, by decide +kernel⟩) ?_
      refine mj_r_pure rfl rfl ?_
      refine mj_r_getf rfl rfl g2 rfl ?_
      exact mj_r_iret rfl rfl rfl ⟨rfl, rfl, rfl⟩
    by_cases c_3 : w = 3
    · subst c_3
      refine mj_r_switch (t := 67) rfl (Or.inr ⟨by decide +kernel, by decide +kernel, 51, by decide +kernel, by decide +kernel⟩) ?_
      refine mj_r_pure rfl rfl ?_
      refine mj_r_getf rfl rfl g2 rfl ?_
      exact mj_r_iret rfl rfl rfl ⟨by rw [eod]; rfl, rfl, rfl⟩
    by_cases c_4 : w = 4
    · subst c_4
      refine mj_r_switch (t := 72) rfl (Or.inr ⟨by decide +kernel, by decide +kernel, 56, by decide +kernel, by decide +kernel⟩) ?_
      iterate 2 (refine mj_r_pure rfl rfl ?_)
      refine mj_r_getf rfl rfl ht rfl ?_
      refine mj_r_getf rfl rfl R.1 rfl ?_
      refine mj_r_cV0 (ci := 1)  rfl li_Top_220 ck_Claim_ticksLeft iv_Claim_ticksLeft (by decide) ((K_Claim_ticksLeft _ a nx _ _ _ _ _ _ _ _ g2)) rfl rfl (Nat.le_of_ble_eq_true rfl) rfl g2 ?_
      rintro _ _ _ ⟨rfl, rfl, rfl⟩ _
      exact mj_r_iret rfl rfl rfl ⟨by rw [etl]; rfl, rfl, rfl⟩
    refine mj_r_switch (t := 84) rfl (Or.inl ⟨by have e_0 := lv_neT (a := 0) c_0 (by decide +kernel); have e_1 := lv_neT (a := 1) c_1 (by decide +kernel); have e_2 := lv_neT (a := 2) c_2 (by decide +kernel); have e_3 := lv_neT (a := 3) c_3 (by decide +kernel); have e_4 := lv_neT (a := 4) c_4 (by decide +kernel); omega, by decide⟩) ?_
    refine mj_r_pure rfl rfl ?_
    exact mj_r_iret rfl rfl rfl ⟨by rw [sp_ofClaim1, if_neg c_0, if_neg c_1, if_neg c_2, if_neg c_3, if_neg c_4], rfl, rfl⟩
  · rw [show sp_ofClaim S c w nd = -1 by rw [sp_ofClaim, if_neg a1]]
    refine mj_r_pure rfl rfl ?_
    refine mj_r_getf rfl rfl ht rfl ?_
    refine mj_r_pure rfl rfl ?_
    refine mj_r_cV0 (ci := 2)  rfl li_Top_102 ck_Court_claimAt iv_Court_claimAt (by decide) ((K_Court_claimAt_f _ nx _ _ _ _ c R.1 (by rw [← hnc]; exact a1))) rfl rfl (Nat.le_of_ble_eq_true rfl) rfl R.1 ?_
    rintro _ _ _ ⟨rfl, rfl, rfl⟩ _
    iterate 2 (refine mj_r_pure rfl rfl ?_)
    refine mj_r_pure rfl rfl ?_
    refine mj_r_pure rfl rfl ?_
    exact mj_r_iret rfl rfl rfl ⟨rfl, rfl, rfl⟩
set_option maxRecDepth 20000 in
set_option maxHeartbeats 4000000 in
theorem K_Top_ofDispute (h : mj_H) (S : rf_S) (nx nb pa nc nd T : Nat) (d w : Int32) (ht : h.1 9 0 = some (oTop nb pa)) (hi : iC h S nx nc nd T) : cK me_Top_ofDispute [.ref 0, .int d, .int w] h nx (some (.int (sp_ofDispute S d w))) h := by
  refine mj_K.of ok_Top_ofDispute ck_Top_ofDispute (Nat.le_of_ble_eq_true rfl) ?_
  obtain ⟨od, to, md, oc, fc, fd, R, P⟩ := hi
  have hw := P.1.1
  have hnd := hw.1
  have h80 := hw.2.1
  by_cases a1 : isN d (S.1 21 0)
  · obtain ⟨j, hj, rfl⟩ := isN_nat (n := nd) (by omega) (by rw [← hnd]; exact a1)
    rw [show sp_ofDispute S (nI j) w = sp_ofDispute1 S j w by rw [sp_ofDispute, if_pos a1, nI_clamp (by omega)]]
    obtain ⟨a, c, ca, p, g1, g2, g3, g4, g5, g6, g7, g8, g9⟩ := R.dis hw hj
    unfold Cof at g7
    have etu : sp_turn (S.1 24 j) (S.1 25 j) (S.1 26 j) (to j) = if S.1 24 j = 0 then S.1 30 j else -1 := by
      by_cases c0 : S.1 24 j = 0
      · rw [if_pos c0, turn_eq P.2.2.1 hj c0]
      · rw [if_neg c0, sp_turn, if_neg c0]
    refine mj_r_pure rfl rfl ?_
    refine mj_r_getf rfl rfl ht rfl ?_
    refine mj_r_pure rfl rfl ?_
    refine mj_r_cV0 (ci := 2)  rfl li_Top_122 ck_Court_disputeAt iv_Court_disputeAt (by decide) ((K_Court_disputeAt_t _ nx j nd a _ _ _ fd R.1 R.2.2.2.1 h80 hj g1)) rfl rfl (Nat.le_of_ble_eq_true rfl) rfl R.1 ?_
    rintro _ _ _ ⟨rfl, rfl, rfl⟩ _
    iterate 2 (refine mj_r_pure rfl rfl ?_)
    refine mj_r_pure rfl rfl ?_
    refine mj_r_pure rfl rfl ?_
    by_cases c_0 : w = 0
    · subst c_0
      refine mj_r_switch (t := 68) rfl (Or.inr ⟨by decide +kernel, by decide +kernel, 52, by decide +kernel, by decide +kernel⟩) ?_
      refine mj_r_pure rfl rfl ?_
      refine mj_r_getf rfl rfl g8 rfl ?_
      exact mj_r_iret rfl rfl rfl ⟨by rw [← g5]; rfl, rfl, rfl⟩
    by_cases c_1 : w = 1
    · subst c_1
      refine mj_r_switch (t := 73) rfl (Or.inr ⟨by decide +kernel, by decide +kernel, 57, by decide +kernel, by decide +kernel⟩) ?_
      refine mj_r_pure rfl rfl ?_
      refine mj_r_getf rfl rfl g8 rfl ?_
      refine mj_r_getf rfl rfl g7 rfl ?_
      exact mj_r_iret rfl rfl rfl ⟨by rw [← g3]; rfl, rfl, rfl⟩
    by_cases c_2 : w = 2
    · subst c_2
      refine mj_r_switch (t := 81) rfl (Or.inr ⟨by decide +kernel, by decide +kernel, 65, by decide +kernel, by decide +kernel⟩) ?_
      refine mj_r_pure rfl rfl ?_
      refine mj_r_getf rfl rfl g8 rfl ?_
      exact mj_r_iret rfl rfl rfl ⟨rfl, rfl, rfl⟩
    by_cases c_3 : w = 3
    · subst c_3
      refine mj_r_switch (t := 86) rfl (Or.inr ⟨by decide +kernel, by decide +kernel, 70, by decide +kernel, by decide +kernel⟩) ?_
      refine mj_r_pure rfl rfl ?_
      refine mj_r_getf rfl rfl g8 rfl ?_
      exact mj_r_iret rfl rfl rfl ⟨rfl, rfl, rfl⟩
    by_cases c_4 : w = 4
    · subst c_4
      refine mj_r_switch (t := 91) rfl (Or.inr ⟨by decide +kernel, by decide +kernel, 75, by decide +kernel, by decide +kernel⟩) ?_
      refine mj_r_pure rfl rfl ?_
      refine mj_r_getf rfl rfl g8 rfl ?_
      exact mj_r_iret rfl rfl rfl ⟨rfl, rfl, rfl⟩
    by_cases c_5 : w = 5
    · subst c_5
      refine mj_r_switch (t := 96) rfl (Or.inr ⟨by decide +kernel, by decide +kernel, 80, by decide +kernel, by decide +kernel⟩) ?_
      refine mj_r_pure rfl rfl ?_
      refine mj_r_cV0 (ci := 3)  rfl li_Top_126 ck_Dispute_turn iv_Dispute_turn (by decide) ((K_Dispute_turn _ a nx _ _ _ _ _ _ _ _ _ _ _ _ g8)) rfl rfl (Nat.le_of_ble_eq_true rfl) rfl g8 ?_
      rintro _ _ _ ⟨rfl, rfl, rfl⟩ _
      exact mj_r_iret rfl rfl rfl ⟨by rw [etu]; rfl, rfl, rfl⟩
    by_cases c_6 : w = 6
    · subst c_6
      refine mj_r_switch (t := 101) rfl (Or.inr ⟨by decide +kernel, by decide +kernel, 85, by decide +kernel, by decide +kernel⟩) ?_
      refine mj_r_pure rfl rfl ?_
      refine mj_r_getf rfl rfl g8 rfl ?_
      exact mj_r_iret rfl rfl rfl ⟨rfl, rfl, rfl⟩
    by_cases c_7 : w = 7
    · subst c_7
      refine mj_r_switch (t := 106) rfl (Or.inr ⟨by decide +kernel, by decide +kernel, 90, by decide +kernel, by decide +kernel⟩) ?_
      refine mj_r_pure rfl rfl ?_
      refine mj_r_getf rfl rfl g8 rfl ?_
      exact mj_r_iret rfl rfl rfl ⟨rfl, rfl, rfl⟩
    by_cases c_8 : w = 8
    · subst c_8
      refine mj_r_switch (t := 111) rfl (Or.inr ⟨by decide +kernel, by decide +kernel, 95, by decide +kernel, by decide +kernel⟩) ?_
      refine mj_r_pure rfl rfl ?_
      refine mj_r_getf rfl rfl g8 rfl ?_
      exact mj_r_iret rfl rfl rfl ⟨rfl, rfl, rfl⟩
    refine mj_r_switch (t := 116) rfl (Or.inl ⟨by have e_0 := lv_neT (a := 0) c_0 (by decide +kernel); have e_1 := lv_neT (a := 1) c_1 (by decide +kernel); have e_2 := lv_neT (a := 2) c_2 (by decide +kernel); have e_3 := lv_neT (a := 3) c_3 (by decide +kernel); have e_4 := lv_neT (a := 4) c_4 (by decide +kernel); have e_5 := lv_neT (a := 5) c_5 (by decide +kernel); have e_6 := lv_neT (a := 6) c_6 (by decide +kernel); have e_7 := lv_neT (a := 7) c_7 (by decide +kernel); have e_8 := lv_neT (a := 8) c_8 (by decide +kernel); omega, by decide⟩) ?_
    refine mj_r_pure rfl rfl ?_
    exact mj_r_iret rfl rfl rfl ⟨by rw [sp_ofDispute1, if_neg c_0, if_neg c_1, if_neg c_2, if_neg c_3, if_neg c_4, if_neg c_5, if_neg c_6, if_neg c_7, if_neg c_8], rfl, rfl⟩
  · rw [show sp_ofDispute S d w = -1 by rw [sp_ofDispute, if_neg a1]]
    refine mj_r_pure rfl rfl ?_
    refine mj_r_getf rfl rfl ht rfl ?_
    refine mj_r_pure rfl rfl ?_
    refine mj_r_cV0 (ci := 2)  rfl li_Top_122 ck_Court_disputeAt iv_Court_disputeAt (by decide) ((K_Court_disputeAt_f _ nx _ _ _ _ d R.1 (by rw [← hnd]; exact a1))) rfl rfl (Nat.le_of_ble_eq_true rfl) rfl R.1 ?_
    rintro _ _ _ ⟨rfl, rfl, rfl⟩ _
    iterate 2 (refine mj_r_pure rfl rfl ?_)
    refine mj_r_pure rfl rfl ?_
    refine mj_r_pure rfl rfl ?_
    exact mj_r_iret rfl rfl rfl ⟨rfl, rfl, rfl⟩
set_option maxRecDepth 20000 in
set_option maxHeartbeats 4000000 in
theorem K_Top_digest (h : mj_H) (S : rf_S) (nx nb pa nc nd T : Nat) (d w : Int32) (ht : h.1 9 0 = some (oTop nb pa)) (hi : iC h S nx nc nd T) : cK me_Top_digest [.ref 0, .int d, .int w] h nx (some (.long (sp_digest S d w))) h := by
  refine mj_K.of ok_Top_digest ck_Top_digest (Nat.le_of_ble_eq_true rfl) ?_
  obtain ⟨od, to, md, oc, fc, fd, R, P⟩ := hi
  have hw := P.1.1
  have hnd := hw.1
  have h80 := hw.2.1
  by_cases a1 : isN d (S.1 21 0)
  · obtain ⟨j, hj, rfl⟩ := isN_nat (n := nd) (by omega) (by rw [← hnd]; exact a1)
    rw [show sp_digest S (nI j) w = sp_digest1 S j w by rw [sp_digest, if_pos a1, nI_clamp (by omega)]]
    obtain ⟨a, c, ca, p, g1, g2, g3, g4, g5, g6, g7, g8, g9⟩ := R.dis hw hj
    have e29 := (P.2.2.1 j hj).2
    refine mj_r_pure rfl rfl ?_
    refine mj_r_getf rfl rfl ht rfl ?_
    refine mj_r_pure rfl rfl ?_
    refine mj_r_cV0 (ci := 2)  rfl li_Top_122 ck_Court_disputeAt iv_Court_disputeAt (by decide) ((K_Court_disputeAt_t _ nx j nd a _ _ _ fd R.1 R.2.2.2.1 h80 hj g1)) rfl rfl (Nat.le_of_ble_eq_true rfl) rfl R.1 ?_
    rintro _ _ _ ⟨rfl, rfl, rfl⟩ _
    iterate 2 (refine mj_r_pure rfl rfl ?_)
    refine mj_r_pure rfl rfl ?_
    refine mj_r_pure rfl rfl ?_
    by_cases c_0 : w = 0
    · subst c_0
      refine mj_r_switch (t := 44) rfl (Or.inr ⟨by decide +kernel, by decide +kernel, 28, by decide +kernel, by decide +kernel⟩) ?_
      refine mj_r_pure rfl rfl ?_
      refine mj_r_getf rfl rfl g8 rfl ?_
      exact mj_r_lret rfl rfl ⟨rfl, rfl, rfl⟩
    by_cases c_1 : w = 1
    · subst c_1
      refine mj_r_switch (t := 49) rfl (Or.inr ⟨by decide +kernel, by decide +kernel, 33, by decide +kernel, by decide +kernel⟩) ?_
      refine mj_r_pure rfl rfl ?_
      refine mj_r_getf rfl rfl g8 rfl ?_
      exact mj_r_lret rfl rfl ⟨rfl, rfl, rfl⟩
    by_cases c_2 : w = 2
    · subst c_2
      refine mj_r_switch (t := 54) rfl (Or.inr ⟨by decide +kernel, by decide +kernel, 38, by decide +kernel, by decide +kernel⟩) ?_
      refine mj_r_pure rfl rfl ?_
      refine mj_r_getf rfl rfl g8 rfl ?_
      refine mj_r_if_eq rfl (fun c1 => ?_) (fun c1 => ?_)
      · refine mj_r_pure rfl rfl ?_
        exact mj_r_lret rfl rfl ⟨by show _ = some (Value.long (S.2 29 j)); rw [e29, if_pos c1], rfl, rfl⟩
      · refine mj_r_pure rfl rfl ?_
        refine mj_r_getf rfl rfl g8 rfl ?_
        refine mj_r_pure rfl rfl ?_
        exact mj_r_lret rfl rfl ⟨by show _ = some (Value.long (S.2 29 j)); rw [e29, if_neg c1], rfl, rfl⟩
    refine mj_r_switch (t := 70) rfl (Or.inl ⟨by have e_0 := lv_neT (a := 0) c_0 (by decide +kernel); have e_1 := lv_neT (a := 1) c_1 (by decide +kernel); have e_2 := lv_neT (a := 2) c_2 (by decide +kernel); omega, by decide⟩) ?_
    refine mj_r_pure rfl rfl ?_
    exact mj_r_lret rfl rfl ⟨by rw [sp_digest1, if_neg c_0, if_neg c_1, if_neg c_2], rfl, rfl⟩
  · rw [show sp_digest S d w = 0 by rw [sp_digest, if_neg a1]]
    refine mj_r_pure rfl rfl ?_
    refine mj_r_getf rfl rfl ht rfl ?_
    refine mj_r_pure rfl rfl ?_
    refine mj_r_cV0 (ci := 2)  rfl li_Top_122 ck_Court_disputeAt iv_Court_disputeAt (by decide) ((K_Court_disputeAt_f _ nx _ _ _ _ d R.1 (by rw [← hnd]; exact a1))) rfl rfl (Nat.le_of_ble_eq_true rfl) rfl R.1 ?_
    rintro _ _ _ ⟨rfl, rfl, rfl⟩ _
    iterate 2 (refine mj_r_pure rfl rfl ?_)
    refine mj_r_pure rfl rfl ?_
    refine mj_r_pure rfl rfl ?_
    exact mj_r_lret rfl rfl ⟨rfl, rfl, rfl⟩
theorem sm_a (a : Int32) (f : Nat → Int32) (n : Nat) : sm a f n = a + sm 0 f n := by
  induction n with
  | zero => exact (Int32.add_zero _).symm
  | succ n ih =>
    show sm a f n + f n = a + (sm 0 f n + f n)
    rw [ih, Int32.add_assoc]
theorem sm_op (S : rf_S) (n : Nat) : sm 0 (fun c => if S.1 19 c = 0 then 100 else 0) n = nI (nOp S n) * 100 := by
  induction n with
  | zero => rfl
  | succ n ih =>
    show sm 0 _ n + (if S.1 19 n = 0 then 100 else 0) = nI (nOp S n + (if decide (S.1 19 n = 0) then 1 else 0)) * 100
    rw [ih]
    by_cases c : S.1 19 n = 0
    · rw [if_pos c, if_pos (decide_eq_true c), ← nI_1, Int32.add_mul]
      rfl
    · rw [if_neg c, if_neg (by rw [decide_eq_false c]; decide)]
      exact Int32.add_zero _
theorem sm_sum {S : rf_S} {nc nd : Nat} {oc : Int32} (h : oc = nI (nOp S nc)) : sm (sm (oc * 100) (S.1 14) 8) (fun d => if S.1 24 d = 0 then 50 else 0) nd = sp_sum S nc nd := by
  unfold sp_sum
  rw [sm_a (sm (oc * 100) (S.1 14) 8), sm_a (sm (sm 0 (S.1 14) 8) _ nc), sm_a (oc * 100), sm_a (sm 0 (S.1 14) 8), sm_op, h, Int32.add_comm (nI (nOp S nc) * 100)]
set_option maxRecDepth 20000 in
set_option maxHeartbeats 4000000 in
theorem K_Court_total (h : mj_H) (S : rf_S) (od to : Nat → Int32) (md : Nat → Int64) (oc : Int32) (fc fd : Nat → Option Nat) (nx nc nd T : Nat) (R : cS h S od to md oc fc fd nx nc nd) (P : pAll S nc nd T od oc to md) : cK me_Court_total [.ref 17] h nx (some (.int (sp_sum S nc nd))) h := by
  refine mj_K.of ok_Court_total ck_Court_total (Nat.le_of_ble_eq_true rfl) ?_
  rw [← sm_sum P.1.2.2.1]
  have hw := P.1.1
  have h80 := hw.2.1
  have go2 : ∀ (a : Int32) (d i : Nat), i + d = nd → mj_W me_Court_total 33 [(0, .ref 17), (1, .int (sm a (fun d => if S.1 24 d = 0 then 50 else 0) i)), (2, .int (nI i))] [] h mj_0 nx 0 0 (fun _ => True, fun r h2 _ nx' => r = some (.int (sm a (fun d => if S.1 24 d = 0 then 50 else 0) nd)) ∧ h2 = h ∧ nx = nx') := by
    intro a d
    induction d with
    | zero =>
      intro i hi
      have e : i = nd := by omega
      subst e
      iterate 2 (refine mj_r_pure rfl rfl ?_)
      refine mj_r_getf rfl rfl R.1 rfl ?_
      refine mj_r_icmp_ge rfl (fun c1 => ?_) (fun c1 => absurd c1 (fun q => q (nI_le (Nat.le_refl _) (by omega))))
      refine mj_r_pure rfl rfl ?_
      exact mj_r_iret rfl rfl rfl ⟨rfl, rfl, rfl⟩
    | succ d ih =>
      intro i hi
      have e := ih (i + 1) (by omega)
      have hin : i < nd := by omega
      obtain ⟨a', c, ca, p, g1, g2, g3, g4, g5, g6, g7, g8, g9⟩ := R.dis hw hin
      rw [show sm a (fun d => if S.1 24 d = 0 then 50 else 0) (i + 1) = sm a (fun d => if S.1 24 d = 0 then 50 else 0) i + (if S.1 24 i = 0 then 50 else 0) from rfl] at e
      by_cases ho : S.1 24 i = 0
      · rw [if_pos ho] at e
        iterate 2 (refine mj_r_pure rfl rfl ?_)
        refine mj_r_getf rfl rfl R.1 rfl ?_
        refine mj_r_icmp_ge rfl (fun c1 => absurd c1 (nI_ge (by omega) (by omega))) (fun c1 => ?_)
        iterate 3 (refine mj_r_pure rfl rfl ?_)
        refine mj_r_cV0 (ci := 2)  rfl li_Court_87 ck_Court_openDisputeAt iv_Court_openDisputeAt (by decide) ((K_Court_openAt_t _ nx i nd a' _ _ _ _ _ _ _ _ _ _ _ _ _ _ _ fd R.1 R.2.2.2.1 h80 hin g1 g8 ho)) rfl rfl (Nat.le_of_ble_eq_true rfl) rfl R.1 ?_
        rintro _ _ _ ⟨rfl, rfl, rfl⟩ _
        refine mj_r_pure rfl rfl ?_
        iterate 6 (refine mj_r_pure rfl rfl ?_)
        rw [nI_1]; exact e
      · rw [if_neg ho] at e
        iterate 2 (refine mj_r_pure rfl rfl ?_)
        refine mj_r_getf rfl rfl R.1 rfl ?_
        refine mj_r_icmp_ge rfl (fun c1 => absurd c1 (nI_ge (by omega) (by omega))) (fun c1 => ?_)
        iterate 3 (refine mj_r_pure rfl rfl ?_)
        refine mj_r_cV0 (ci := 2)  rfl li_Court_87 ck_Court_openDisputeAt iv_Court_openDisputeAt (by decide) ((K_Court_openAt_f _ nx i nd a' _ _ _ _ _ _ _ _ _ _ _ _ _ _ _ fd R.1 R.2.2.2.1 h80 hin g1 g8 ho)) rfl rfl (Nat.le_of_ble_eq_true rfl) rfl R.1 ?_
        rintro _ _ _ ⟨rfl, rfl, rfl⟩ _
        refine mj_r_pure rfl rfl ?_
        iterate 5 (refine mj_r_pure rfl rfl ?_)
        rw [nI_1]; exact e
  have go1 : ∀ (d i : Nat), i + d = 8 → mj_W me_Court_total 10 [(0, .ref 17), (1, .int (sm (oc * 100) (S.1 14) i)), (2, .int (nI i))] [] h mj_0 nx 0 0 (fun _ => True, fun r h2 _ nx' => r = some (.int (sm (sm (oc * 100) (S.1 14) 8) (fun d => if S.1 24 d = 0 then 50 else 0) nd)) ∧ h2 = h ∧ nx = nx') := by
    intro d
    induction d with
    | zero =>
      intro i hi
      have e : i = 8 := by omega
      subst e
      iterate 2 (refine mj_r_pure rfl rfl ?_)
      refine mj_r_icmp_ge rfl (fun c1 => ?_) (fun c1 => absurd c1 (fun q => q (nI_le (a := 8) (b := 8) (Nat.le_refl _) (by omega))))
      iterate 2 (refine mj_r_pure rfl rfl ?_)
      exact go2 _ nd 0 (by omega)
    | succ d ih =>
      intro i hi
      have e := ih (i + 1) (by omega)
      iterate 2 (refine mj_r_pure rfl rfl ?_)
      refine mj_r_icmp_ge rfl (fun c1 => absurd c1 (nI_ge (a := i) (b := 8) (by omega) (by omega))) (fun c1 => ?_)
      iterate 2 (refine mj_r_pure rfl rfl ?_)
      refine mj_r_getf rfl rfl R.1 rfl ?_
      refine mj_r_pure rfl rfl ?_
      refine cx_iald rfl R.2.1 (by first | rfl | assumption) (by omega) ?_
      iterate 4 (refine mj_r_pure rfl rfl ?_)
      rw [nI_1]; exact e
  refine mj_r_pure rfl rfl ?_
  refine mj_r_getf rfl rfl R.1 rfl ?_
  iterate 5 (refine mj_r_pure rfl rfl ?_)
  exact go1 8 0 rfl
set_option maxRecDepth 20000 in
set_option maxHeartbeats 4000000 in
theorem K_Top_sum (h : mj_H) (S : rf_S) (nx nb pa nc nd T : Nat) (ht : h.1 9 0 = some (oTop nb pa)) (hi : iC h S nx nc nd T) : cK me_Top_sum [.ref 0] h nx (some (.int (sp_sum S nc nd))) h := by
  refine mj_K.of ok_Top_sum ck_Top_sum (Nat.le_of_ble_eq_true rfl) ?_
  obtain ⟨od, to, md, oc, fc, fd, R, P⟩ := hi
  refine mj_r_pure rfl rfl ?_
  refine mj_r_getf rfl rfl ht rfl ?_
  refine mj_r_cV0 (ci := 2)  rfl li_Top_248 ck_Court_total iv_Court_total (by decide) ((K_Court_total _ S od to md oc fc fd nx nc nd T R P)) rfl rfl (Nat.le_of_ble_eq_true rfl) rfl R.1 ?_
  rintro _ _ _ ⟨rfl, rfl, rfl⟩ _
  exact mj_r_iret rfl rfl rfl ⟨rfl, rfl, rfl⟩
end TQ
