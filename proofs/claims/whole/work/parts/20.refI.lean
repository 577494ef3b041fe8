/-! the reference: questions, sum, clear, batch -/
def sp_left (S : rf_S) (c nd : Nat) : Int32 := if S.1 19 c = 0 then (if nI (sp_open S (nI c) nd) ≤ 0 then 40 - (S.1 13 0 - S.1 20 c) else 40) else 0
def sp_ofClaim1 (S : rf_S) (c : Nat) (w : Int32) (nd : Nat) : Int32 :=
  if w = 0 then S.1 16 c else if w = 1 then S.1 17 c else if w = 2 then S.1 19 c else if w = 3 then nI (sp_open S (nI c) nd) else if w = 4 then sp_left S c nd else -1
def sp_ofClaim (S : rf_S) (c w : Int32) (nd : Nat) : Int32 := if isN c (S.1 15 0) then sp_ofClaim1 S c.toNatClampNeg w nd else -1
set_option maxRecDepth 20000 in
set_option maxHeartbeats 4000000 in
theorem K_Ref_ofClaim (S : rf_S) (c w : Int32) (nx nc nd : Nat) (hnc : S.1 15 0 = nI nc) (h40 : nc ≤ 40) (hnd : S.1 21 0 = nI nd) (h80 : nd ≤ 80) : rK me_Ref_ofClaim [.int c, .int w] S nx (some (.int (sp_ofClaim S c w nd))) S := by
  refine mj_K.of ok_Ref_ofClaim ck_Ref_ofClaim (Nat.le_of_ble_eq_true rfl) ?_
  by_cases a1 : isN c (S.1 15 0)
  · obtain ⟨j, hj, rfl⟩ := isN_nat (n := nc) (by omega) (by rw [← hnc]; exact a1)
    rw [show sp_ofClaim S (nI j) w nd = sp_ofClaim1 S j w nd by rw [sp_ofClaim, if_pos a1, nI_clamp (by omega)]]
    iterate 2 (refine mj_r_pure rfl rfl ?_)
    refine mj_r_callV (ci := 10) (kc := 0) (ks := 0) rfl li_Ref_171 ck_Ref_isClaim iv_Ref_isClaim (by decide) rfl rfl (K_Ref_isClaim S _ nx) rfl rfl (Nat.le_of_ble_eq_true rfl) ?_
    rintro _ _ _ ⟨rfl, rfl, rfl⟩ _
    rw [bI_t a1]
    refine mj_r_if_ne rfl (fun c1 => ?_) (fun c1 => absurd c1 (by decide))
    refine mj_r_pure rfl rfl ?_
    by_cases c_0 : w = 0
    · subst c_0
      refine mj_r_switch (t := 44) rfl (Or.inr ⟨by decide +kernel, by decide +kernel, 33, by decide +kernel, by decide +kernel⟩) ?_
      refine mj_r_pure rfl rfl ?_
      refine rr_get rfl rfl rfl ?_
      refine mj_r_pure rfl rfl ?_
      refine rx_iald rfl rfl (by first | rfl | assumption) (by omega) ?_
      exact mj_r_iret rfl rfl rfl ⟨rfl, rfl, rfl⟩
    by_cases c_1 : w = 1
    · subst c_1
      refine mj_r_switch (t := 51) rfl (Or.inr ⟨by decide +kernel, by decide +kernel, 40, by decide +kernel, by decide +kernel⟩) ?_
      refine mj_r_pure rfl rfl ?_
      refine rr_get rfl rfl rfl ?_
      refine mj_r_pure rfl rfl ?_
      refine rx_iald rfl rfl (by first | rfl | assumption) (by omega) ?_
      exact mj_r_iret rfl rfl rfl ⟨rfl, rfl, rfl⟩
    by_cases c_2 : w = 2
    · subst c_2
      refine mj_r_switch (t := 58) rfl (Or.inr ⟨by decide +kernel, by decide +kernel, 47, by decide +kernel, by decide +kernel⟩) ?_
      refine mj_r_pure rfl rfl ?_
      refine rr_get rfl rfl rfl ?_
      refine mj_r_pure rfl rfl ?_
      refine rx_iald rfl rfl (by first | rfl | assumption) (by omega) ?_
      exact mj_r_iret rfl rfl rfl ⟨rfl, rfl, rfl⟩
    by_cases c_3 : w = 3
    · subst c_3
      refine mj_r_switch (t := 65) rfl (Or.inr ⟨by decide +kernel, by decide +kernel, 54, by decide +kernel, by decide +kernel⟩) ?_
      iterate 2 (refine mj_r_pure rfl rfl ?_)
      refine mj_r_callV (ci := 10) (kc := 0) (ks := 0) rfl li_Ref_174 ck_Ref_openAt iv_Ref_openAt (by decide) rfl rfl (K_Ref_openAt S _ nx nd hnd h80) rfl rfl (Nat.le_of_ble_eq_true rfl) ?_
      rintro _ _ _ ⟨rfl, rfl, rfl⟩ _
      exact mj_r_iret rfl rfl rfl ⟨rfl, rfl, rfl⟩
    by_cases c_4 : w = 4
    · subst c_4
      refine mj_r_switch (t := 71) rfl (Or.inr ⟨by decide +kernel, by decide +kernel, 60, by decide +kernel, by decide +kernel⟩) ?_
      refine mj_r_pure rfl rfl ?_
      refine rr_get rfl rfl rfl ?_
      refine mj_r_pure rfl rfl ?_
      refine rx_iald rfl rfl (by first | rfl | assumption) (by omega) ?_
      refine mj_r_if_eq rfl (fun c2 => ?_) (fun c2 => ?_)
      · iterate 2 (refine mj_r_pure rfl rfl ?_)
        refine mj_r_callV (ci := 10) (kc := 0) (ks := 0) rfl li_Ref_174 ck_Ref_openAt iv_Ref_openAt (by decide) rfl rfl (K_Ref_openAt S _ nx nd hnd h80) rfl rfl (Nat.le_of_ble_eq_true rfl) ?_
        rintro _ _ _ ⟨rfl, rfl, rfl⟩ _
        refine mj_r_if_le rfl (fun c3 => ?_) (fun c3 => ?_)
        · iterate 2 (refine mj_r_pure rfl rfl ?_)
          refine rr_get rfl rfl rfl ?_
          refine mj_r_pure rfl rfl ?_
          refine rr_get rfl rfl rfl ?_
          refine mj_r_pure rfl rfl ?_
          refine rx_iald rfl rfl (by first | rfl | assumption) (by omega) ?_
          iterate 2 (refine mj_r_pure rfl rfl ?_)
          exact mj_r_iret rfl rfl rfl ⟨congrArg (fun z => some (Value.int z)) (by show _ = sp_left S j nd; rw [sp_left, if_pos c2, if_pos c3]), rfl, rfl⟩
        · iterate 2 (refine mj_r_pure rfl rfl ?_)
          exact mj_r_iret rfl rfl rfl ⟨congrArg (fun z => some (Value.int z)) (by show _ = sp_left S j nd; rw [sp_left, if_pos c2, if_neg c3]), rfl, rfl⟩
      · iterate 2 (refine mj_r_pure rfl rfl ?_)
        exact mj_r_iret rfl rfl rfl ⟨congrArg (fun z => some (Value.int z)) (by show _ = sp_left S j nd; rw [sp_left, if_neg c2]), rfl, rfl⟩
    refine mj_r_switch (t := 112) rfl (Or.inl ⟨by have e_0 := lv_neT (a := 0) c_0 (by decide +kernel); have e_1 := lv_neT (a := 1) c_1 (by decide +kernel); have e_2 := lv_neT (a := 2) c_2 (by decide +kernel); have e_3 := lv_neT (a := 3) c_3 (by decide +kernel); have e_4 := lv_neT (a := 4) c_4 (by decide +kernel); omega, by decide⟩) ?_
    refine mj_r_pure rfl rfl ?_
    exact mj_r_iret rfl rfl rfl ⟨by rw [sp_ofClaim1, if_neg c_0, if_neg c_1, if_neg c_2, if_neg c_3, if_neg c_4], rfl, rfl⟩
  · rw [show sp_ofClaim S c w nd = -1 by rw [sp_ofClaim, if_neg a1]]
    iterate 2 (refine mj_r_pure rfl rfl ?_)
    refine mj_r_callV (ci := 10) (kc := 0) (ks := 0) rfl li_Ref_171 ck_Ref_isClaim iv_Ref_isClaim (by decide) rfl rfl (K_Ref_isClaim S _ nx) rfl rfl (Nat.le_of_ble_eq_true rfl) ?_
    rintro _ _ _ ⟨rfl, rfl, rfl⟩ _
    rw [bI_f a1]
    refine mj_r_if_ne rfl (fun c1 => absurd c1 (fun q => q rfl)) (fun c1 => ?_)
    refine mj_r_pure rfl rfl ?_
    exact mj_r_iret rfl rfl rfl ⟨rfl, rfl, rfl⟩
def sp_ofDispute1 (S : rf_S) (d : Nat) (w : Int32) : Int32 :=
  if w = 0 then S.1 22 d else if w = 1 then S.1 23 d else if w = 2 then S.1 24 d else if w = 3 then S.1 25 d else if w = 4 then S.1 26 d else if w = 5 then (if S.1 24 d = 0 then S.1 30 d else -1) else if w = 6 then S.1 31 d else if w = 7 then S.1 32 d else if w = 8 then S.1 33 d else -1
def sp_ofDispute (S : rf_S) (d w : Int32) : Int32 := if isN d (S.1 21 0) then sp_ofDispute1 S d.toNatClampNeg w else -1
set_option maxRecDepth 20000 in
set_option maxHeartbeats 4000000 in
theorem K_Ref_ofDispute (S : rf_S) (d w : Int32) (nx nd : Nat) (hnd : S.1 21 0 = nI nd) (h80 : nd ≤ 80) : rK me_Ref_ofDispute [.int d, .int w] S nx (some (.int (sp_ofDispute S d w))) S := by
  refine mj_K.of ok_Ref_ofDispute ck_Ref_ofDispute (Nat.le_of_ble_eq_true rfl) ?_
  by_cases a1 : isN d (S.1 21 0)
  · obtain ⟨j, hj, rfl⟩ := isN_nat (n := nd) (by omega) (by rw [← hnd]; exact a1)
    rw [show sp_ofDispute S (nI j) w = sp_ofDispute1 S j w by rw [sp_ofDispute, if_pos a1, nI_clamp (by omega)]]
    iterate 2 (refine mj_r_pure rfl rfl ?_)
    refine mj_r_callV (ci := 10) (kc := 0) (ks := 0) rfl li_Ref_181 ck_Ref_isDispute iv_Ref_isDispute (by decide) rfl rfl (K_Ref_isDispute S _ nx) rfl rfl (Nat.le_of_ble_eq_true rfl) ?_
    rintro _ _ _ ⟨rfl, rfl, rfl⟩ _
    rw [bI_t a1]
    refine mj_r_if_ne rfl (fun c1 => ?_) (fun c1 => absurd c1 (by decide))
    iterate 3 (refine mj_r_pure rfl rfl ?_)
    by_cases c_0 : w = 0
    · subst c_0
      refine mj_r_switch (t := 64) rfl (Or.inr ⟨by decide +kernel, by decide +kernel, 51, by decide +kernel, by decide +kernel⟩) ?_
      refine mj_r_pure rfl rfl ?_
      refine rr_get rfl rfl rfl ?_
      refine mj_r_pure rfl rfl ?_
      refine rx_iald rfl rfl (by first | rfl | assumption) (by omega) ?_
      exact mj_r_iret rfl rfl rfl ⟨rfl, rfl, rfl⟩
    by_cases c_1 : w = 1
    · subst c_1
      refine mj_r_switch (t := 71) rfl (Or.inr ⟨by decide +kernel, by decide +kernel, 58, by decide +kernel, by decide +kernel⟩) ?_
      refine mj_r_pure rfl rfl ?_
      refine rr_get rfl rfl rfl ?_
      refine mj_r_pure rfl rfl ?_
      refine rx_iald rfl rfl (by first | rfl | assumption) (by omega) ?_
      exact mj_r_iret rfl rfl rfl ⟨rfl, rfl, rfl⟩
    by_cases c_2 : w = 2
    · subst c_2
      refine mj_r_switch (t := 78) rfl (Or.inr ⟨by decide +kernel, by decide +kernel, 65, by decide +kernel, by decide +kernel⟩) ?_
      refine mj_r_pure rfl rfl ?_
      refine rr_get rfl rfl rfl ?_
      refine mj_r_pure rfl rfl ?_
      refine rx_iald rfl rfl (by first | rfl | assumption) (by omega) ?_
      exact mj_r_iret rfl rfl rfl ⟨rfl, rfl, rfl⟩
    by_cases c_3 : w = 3
    · subst c_3
      refine mj_r_switch (t := 85) rfl (Or.inr ⟨by decide +kernel, by decide +kernel, 72, by decide +kernel, by decide +kernel⟩) ?_
      refine mj_r_pure rfl rfl ?_
      refine rr_get rfl rfl rfl ?_
      refine mj_r_pure rfl rfl ?_
      refine rx_iald rfl rfl (by first | rfl | assumption) (by omega) ?_
      exact mj_r_iret rfl rfl rfl ⟨rfl, rfl, rfl⟩
    by_cases c_4 : w = 4
    · subst c_4
      refine mj_r_switch (t := 92) rfl (Or.inr ⟨by decide +kernel, by decide +kernel, 79, by decide +kernel, by decide +kernel⟩) ?_
      refine mj_r_pure rfl rfl ?_
      refine rr_get rfl rfl rfl ?_
      refine mj_r_pure rfl rfl ?_
      refine rx_iald rfl rfl (by first | rfl | assumption) (by omega) ?_
      exact mj_r_iret rfl rfl rfl ⟨rfl, rfl, rfl⟩
    by_cases c_5 : w = 5
    · subst c_5
      refine mj_r_switch (t := 99) rfl (Or.inr ⟨by decide +kernel, by decide +kernel, 86, by decide +kernel, by decide +kernel⟩) ?_
      refine mj_r_pure rfl rfl ?_
      refine rr_get rfl rfl rfl ?_
      refine mj_r_pure rfl rfl ?_
      refine rx_iald rfl rfl (by first | rfl | assumption) (by omega) ?_
      refine mj_r_if_ne rfl (fun c2 => ?_) (fun c2 => ?_)
      · refine mj_r_pure rfl rfl ?_
        exact mj_r_iret rfl rfl rfl ⟨congrArg (fun z => some (Value.int z)) (by show _ = (if S.1 24 j = 0 then S.1 30 j else -1); rw [if_neg c2]), rfl, rfl⟩
      · refine mj_r_pure rfl rfl ?_
        refine rr_get rfl rfl rfl ?_
        refine mj_r_pure rfl rfl ?_
        refine rx_iald rfl rfl (by first | rfl | assumption) (by omega) ?_
        refine mj_r_pure rfl rfl ?_
        exact mj_r_iret rfl rfl rfl ⟨congrArg (fun z => some (Value.int z)) (by show _ = (if S.1 24 j = 0 then S.1 30 j else -1); rw [if_pos c2]), rfl, rfl⟩
    by_cases c_6 : w = 6
    · subst c_6
      refine mj_r_switch (t := 119) rfl (Or.inr ⟨by decide +kernel, by decide +kernel, 106, by decide +kernel, by decide +kernel⟩) ?_
      refine mj_r_pure rfl rfl ?_
      refine rr_get rfl rfl rfl ?_
      refine mj_r_pure rfl rfl ?_
      refine rx_iald rfl rfl (by first | rfl | assumption) (by omega) ?_
      exact mj_r_iret rfl rfl rfl ⟨rfl, rfl, rfl⟩
    by_cases c_7 : w = 7
    · subst c_7
      refine mj_r_switch (t := 126) rfl (Or.inr ⟨by decide +kernel, by decide +kernel, 113, by decide +kernel, by decide +kernel⟩) ?_
      refine mj_r_pure rfl rfl ?_
      refine rr_get rfl rfl rfl ?_
      refine mj_r_pure rfl rfl ?_
      refine rx_iald rfl rfl (by first | rfl | assumption) (by omega) ?_
      exact mj_r_iret rfl rfl rfl ⟨rfl, rfl, rfl⟩
    by_cases c_8 : w = 8
    · subst c_8
      refine mj_r_switch (t := 133) rfl (Or.inr ⟨by decide +kernel, by decide +kernel, 120, by decide +kernel, by decide +kernel⟩) ?_
      refine mj_r_pure rfl rfl ?_
      refine rr_get rfl rfl rfl ?_
      refine mj_r_pure rfl rfl ?_
      refine rx_iald rfl rfl (by first | rfl | assumption) (by omega) ?_
      exact mj_r_iret rfl rfl rfl ⟨rfl, rfl, rfl⟩
    refine mj_r_switch (t := 140) rfl (Or.inl ⟨by have e_0 := lv_neT (a := 0) c_0 (by decide +kernel); have e_1 := lv_neT (a := 1) c_1 (by decide +kernel); have e_2 := lv_neT (a := 2) c_2 (by decide +kernel); have e_3 := lv_neT (a := 3) c_3 (by decide +kernel); have e_4 := lv_neT (a := 4) c_4 (by decide +kernel); have e_5 := lv_neT (a := 5) c_5 (by decide +kernel); have e_6 := lv_neT (a := 6) c_6 (by decide +kernel); have e_7 := lv_neT (a := 7) c_7 (by decide +kernel); have e_8 := lv_neT (a := 8) c_8 (by decide +kernel); omega, by decide⟩) ?_
    refine mj_r_pure rfl rfl ?_
    exact mj_r_iret rfl rfl rfl ⟨by rw [sp_ofDispute1, if_neg c_0, if_neg c_1, if_neg c_2, if_neg c_3, if_neg c_4, if_neg c_5, if_neg c_6, if_neg c_7, if_neg c_8], rfl, rfl⟩
  · rw [show sp_ofDispute S d w = -1 by rw [sp_ofDispute, if_neg a1]]
    iterate 2 (refine mj_r_pure rfl rfl ?_)
    refine mj_r_callV (ci := 10) (kc := 0) (ks := 0) rfl li_Ref_181 ck_Ref_isDispute iv_Ref_isDispute (by decide) rfl rfl (K_Ref_isDispute S _ nx) rfl rfl (Nat.le_of_ble_eq_true rfl) ?_
    rintro _ _ _ ⟨rfl, rfl, rfl⟩ _
    rw [bI_f a1]
    refine mj_r_if_ne rfl (fun c1 => absurd c1 (fun q => q rfl)) (fun c1 => ?_)
    refine mj_r_pure rfl rfl ?_
    exact mj_r_iret rfl rfl rfl ⟨rfl, rfl, rfl⟩
def sp_digest1 (S : rf_S) (d : Nat) (w : Int32) : Int64 := if w = 0 then S.2 27 d else if w = 1 then S.2 28 d else if w = 2 then S.2 29 d else 0
def sp_digest (S : rf_S) (d w : Int32) : Int64 := if isN d (S.1 21 0) then sp_digest1 S d.toNatClampNeg w else 0
set_option maxRecDepth 20000 in
set_option maxHeartbeats 4000000 in
theorem K_Ref_digest (S : rf_S) (d w : Int32) (nx nd : Nat) (hnd : S.1 21 0 = nI nd) (h80 : nd ≤ 80) : rK me_Ref_digest [.int d, .int w] S nx (some (.long (sp_digest S d w))) S := by
  refine mj_K.of ok_Ref_digest ck_Ref_digest (Nat.le_of_ble_eq_true rfl) ?_
  by_cases a1 : isN d (S.1 21 0)
  · obtain ⟨j, hj, rfl⟩ := isN_nat (n := nd) (by omega) (by rw [← hnd]; exact a1)
    rw [show sp_digest S (nI j) w = sp_digest1 S j w by rw [sp_digest, if_pos a1, nI_clamp (by omega)]]
    iterate 2 (refine mj_r_pure rfl rfl ?_)
    refine mj_r_callV (ci := 10) (kc := 0) (ks := 0) rfl li_Ref_181 ck_Ref_isDispute iv_Ref_isDispute (by decide) rfl rfl (K_Ref_isDispute S _ nx) rfl rfl (Nat.le_of_ble_eq_true rfl) ?_
    rintro _ _ _ ⟨rfl, rfl, rfl⟩ _
    rw [bI_t a1]
    refine mj_r_if_ne rfl (fun c1 => ?_) (fun c1 => absurd c1 (by decide))
    refine mj_r_pure rfl rfl ?_
    refine mj_r_if_ne rfl (fun c2 => ?_) (fun c2 => ?_)
    · iterate 2 (refine mj_r_pure rfl rfl ?_)
      refine mj_r_icmp_ne rfl (fun c3 => ?_) (fun c3 => ?_)
      · iterate 2 (refine mj_r_pure rfl rfl ?_)
        refine mj_r_icmp_ne rfl (fun c4 => ?_) (fun c4 => ?_)
        · refine mj_r_pure rfl rfl ?_
          exact mj_r_lret rfl rfl ⟨by rw [sp_digest1, if_neg c2, if_neg c3, if_neg c4], rfl, rfl⟩
        · refine mj_r_pure rfl rfl ?_
          refine rr_get rfl rfl rfl ?_
          refine mj_r_pure rfl rfl ?_
          refine rx_lald rfl rfl (by first | rfl | assumption) (by omega) ?_
          refine mj_r_pure rfl rfl ?_
          exact mj_r_lret rfl rfl ⟨by rw [sp_digest1, if_neg c2, if_neg c3, if_pos c4], rfl, rfl⟩
      · refine mj_r_pure rfl rfl ?_
        refine rr_get rfl rfl rfl ?_
        refine mj_r_pure rfl rfl ?_
        refine rx_lald rfl rfl (by first | rfl | assumption) (by omega) ?_
        refine mj_r_pure rfl rfl ?_
        exact mj_r_lret rfl rfl ⟨by rw [sp_digest1, if_neg c2, if_pos c3], rfl, rfl⟩
    · refine mj_r_pure rfl rfl ?_
      refine rr_get rfl rfl rfl ?_
      refine mj_r_pure rfl rfl ?_
      refine rx_lald rfl rfl (by first | rfl | assumption) (by omega) ?_
      refine mj_r_pure rfl rfl ?_
      exact mj_r_lret rfl rfl ⟨by rw [sp_digest1, if_pos c2], rfl, rfl⟩
  · rw [show sp_digest S d w = 0 by rw [sp_digest, if_neg a1]]
    iterate 2 (refine mj_r_pure rfl rfl ?_)
    refine mj_r_callV (ci := 10) (kc := 0) (ks := 0) rfl li_Ref_181 ck_Ref_isDispute iv_Ref_isDispute (by decide) rfl rfl (K_Ref_isDispute S _ nx) rfl rfl (Nat.le_of_ble_eq_true rfl) ?_
    rintro _ _ _ ⟨rfl, rfl, rfl⟩ _
    rw [bI_f a1]
    refine mj_r_if_ne rfl (fun c1 => absurd c1 (fun q => q rfl)) (fun c1 => ?_)
    refine mj_r_pure rfl rfl ?_
    exact mj_r_lret rfl rfl ⟨rfl, rfl, rfl⟩
def sm (a : Int32) (f : Nat → Int32) : Nat → Int32
  | 0 => a
  | n + 1 => sm a f n + f n
def sp_sum (S : rf_S) (nc nd : Nat) : Int32 := sm (sm (sm 0 (S.1 14) 8) (fun c => if S.1 19 c = 0 then 100 else 0) nc) (fun d => if S.1 24 d = 0 then 50 else 0) nd
section RLS
variable {Q : mj_post} {g : mj_H} {nx : Nat} {S : rf_S}
set_option maxRecDepth 20000 in
set_option maxHeartbeats 4000000 in
theorem rl_sum1 (k : mj_W me_Ref_sum 25 [(0, .ref 21), (1, .int (sm 0 (S.1 14) 8)), (2, .int (nI 8))] [] (rf_h S) g nx 0 0 Q) : ∀ (d i : Nat), i + d = 8 → mj_W me_Ref_sum 4 [(0, .ref 21), (1, .int (sm 0 (S.1 14) i)), (2, .int (nI i))] [] (rf_h S) g nx 0 0 Q := by
  intro d
  induction d with
  | zero =>
    intro i hi
    have e : i = 8 := by omega
    subst e
    iterate 2 (refine mj_r_pure rfl rfl ?_)
    refine mj_r_icmp_ge rfl (fun c1 => ?_) (fun c1 => absurd c1 (fun q => q (nI_le (a := 8) (b := 8) (Nat.le_refl _) (by omega))))
    exact k
  | succ d ih =>
    intro i hi
    have e := ih (i + 1) (by omega)
    iterate 2 (refine mj_r_pure rfl rfl ?_)
    refine mj_r_icmp_ge rfl (fun c1 => absurd c1 (nI_ge (a := i) (b := 8) (by omega) (by omega))) (fun c1 => ?_)
    iterate 2 (refine mj_r_pure rfl rfl ?_)
    refine rr_get rfl rfl rfl ?_
    refine mj_r_pure rfl rfl ?_
    refine rx_iald rfl rfl (by first | rfl | assumption) (by omega) ?_
    iterate 4 (refine mj_r_pure rfl rfl ?_)
    rw [nI_1]; exact e
set_option maxRecDepth 20000 in
set_option maxHeartbeats 4000000 in
theorem rl_sum2 {a : Int32} {nc : Nat} (hnc : S.1 15 0 = nI nc) (h40 : nc ≤ 40) (k : mj_W me_Ref_sum 59 [(0, .ref 21), (1, .int (sm a (fun c => if S.1 19 c = 0 then 100 else 0) nc)), (2, .int (nI nc))] [] (rf_h S) g nx 0 0 Q) : ∀ (d i : Nat), i + d = nc → mj_W me_Ref_sum 27 [(0, .ref 21), (1, .int (sm a (fun c => if S.1 19 c = 0 then 100 else 0) i)), (2, .int (nI i))] [] (rf_h S) g nx 0 0 Q := by
  intro d
  induction d with
  | zero =>
    intro i hi
    have e : i = nc := by omega
    subst e
    iterate 2 (refine mj_r_pure rfl rfl ?_)
    refine rr_get rfl rfl rfl ?_
    refine mj_r_icmp_ge rfl (fun c1 => ?_) (fun c1 => absurd c1 (fun q => q (by rw [hnc]; exact nI_le (Nat.le_refl _) (by omega))))
    exact k
  | succ d ih =>
    intro i hi
    have e := ih (i + 1) (by omega)
    unfold sm at e
    iterate 2 (refine mj_r_pure rfl rfl ?_)
    refine rr_get rfl rfl rfl ?_
    refine mj_r_icmp_ge rfl (fun c1 => absurd c1 (by rw [hnc]; exact nI_ge (by omega) (by omega))) (fun c1 => ?_)
    iterate 2 (refine mj_r_pure rfl rfl ?_)
    refine rr_get rfl rfl rfl ?_
    refine mj_r_pure rfl rfl ?_
    refine rx_iald rfl rfl (by first | rfl | assumption) (by omega) ?_
    refine mj_r_if_ne rfl (fun c2 => ?_) (fun c2 => ?_)
    · iterate 5 (refine mj_r_pure rfl rfl ?_)
      rw [if_neg c2] at e; rw [nI_1]; exact e
    · iterate 6 (refine mj_r_pure rfl rfl ?_)
      rw [if_pos c2] at e; rw [nI_1]; exact e
set_option maxRecDepth 20000 in
set_option maxHeartbeats 4000000 in
theorem rl_sum3 {a : Int32} {nd : Nat} (hnd : S.1 21 0 = nI nd) (h80 : nd ≤ 80) (k : mj_W me_Ref_sum 93 [(0, .ref 21), (1, .int (sm a (fun c => if S.1 24 c = 0 then 50 else 0) nd)), (2, .int (nI nd))] [] (rf_h S) g nx 0 0 Q) : ∀ (d i : Nat), i + d = nd → mj_W me_Ref_sum 61 [(0, .ref 21), (1, .int (sm a (fun c => if S.1 24 c = 0 then 50 else 0) i)), (2, .int (nI i))] [] (rf_h S) g nx 0 0 Q := by
  intro d
  induction d with
  | zero =>
    intro i hi
    have e : i = nd := by omega
    subst e
    iterate 2 (refine mj_r_pure rfl rfl ?_)
    refine rr_get rfl rfl rfl ?_
    refine mj_r_icmp_ge rfl (fun c1 => ?_) (fun c1 => absurd c1 (fun q => q (by rw [hnd]; exact nI_le (Nat.le_refl _) (by omega))))
    exact k
  | succ d ih =>
    intro i hi
    have e := ih (i + 1) (by omega)
    unfold sm at e
    iterate 2 (refine mj_r_pure rfl rfl ?_)
    refine rr_get rfl rfl rfl ?_
    refine mj_r_icmp_ge rfl (fun c1 => absurd c1 (by rw [hnd]; exact nI_ge (by omega) (by omega))) (fun c1 => ?_)
    iterate 2 (refine mj_r_pure rfl rfl ?_)
    refine rr_get rfl rfl rfl ?_
    refine mj_r_pure rfl rfl ?_
    refine rx_iald rfl rfl (by first | rfl | assumption) (by omega) ?_
    refine mj_r_if_ne rfl (fun c2 => ?_) (fun c2 => ?_)
    · iterate 5 (refine mj_r_pure rfl rfl ?_)
      rw [if_neg c2] at e; rw [nI_1]; exact e
    · iterate 6 (refine mj_r_pure rfl rfl ?_)
      rw [if_pos c2] at e; rw [nI_1]; exact e
end RLS
set_option maxRecDepth 20000 in
set_option maxHeartbeats 4000000 in
theorem K_Ref_sum (S : rf_S) (nx nc nd : Nat) (hnc : S.1 15 0 = nI nc) (h40 : nc ≤ 40) (hnd : S.1 21 0 = nI nd) (h80 : nd ≤ 80) : rK me_Ref_sum [] S nx (some (.int (sp_sum S nc nd))) S := by
  refine mj_K.of ok_Ref_sum ck_Ref_sum (Nat.le_of_ble_eq_true rfl) ?_
  iterate 4 (refine mj_r_pure rfl rfl ?_)
  refine rl_sum1 ?_ 8 0 rfl
  iterate 2 (refine mj_r_pure rfl rfl ?_)
  refine rl_sum2 hnc h40 ?_ nc 0 (by omega)
  iterate 2 (refine mj_r_pure rfl rfl ?_)
  refine rl_sum3 hnd h80 ?_ nd 0 (by omega)
  refine mj_r_pure rfl rfl ?_
  exact mj_r_iret rfl rfl rfl ⟨rfl, rfl, rfl⟩
def sp_fill (S : rf_S) : Nat → rf_S
  | 0 => S
  | n + 1 => sA (sp_fill S n) 14 n 1000
def sp_clear (S : rf_S) : Int32 × rf_S := (S.1 15 0, sp_fill (sI (sI (sI S 15 0) 21 0) 13 0) 8)
set_option maxRecDepth 20000 in
set_option maxHeartbeats 4000000 in
theorem K_Ref_clear (S : rf_S) (nx : Nat) : rKi me_Ref_clear [] S nx (sp_clear S) := by
  refine mj_K.of ok_Ref_clear ck_Ref_clear (Nat.le_of_ble_eq_true rfl) ?_
  refine mj_r_pure rfl rfl ?_
  refine rr_get rfl rfl rfl ?_
  iterate 3 (refine mj_r_pure rfl rfl ?_)
  refine rr_putI rfl rfl (by decide) ?_
  iterate 2 (refine mj_r_pure rfl rfl ?_)
  refine rr_putI rfl rfl (by decide) ?_
  iterate 2 (refine mj_r_pure rfl rfl ?_)
  refine rr_putI rfl rfl (by decide) ?_
  iterate 2 (refine mj_r_pure rfl rfl ?_)
  skip
  have go : ∀ (d i : Nat), i + d = 8 → mj_W me_Ref_clear 22 [(0, .ref 21), (1, .int (S.1 15 0)), (2, .int (nI i))] [] (rf_h (sp_fill (sI (sI (sI S 15 0) 21 0) 13 0) i)) mj_0 nx 0 0 (fun _ => True, fun r h' _ nx' => r = some (.int (sp_clear S).1) ∧ h' = rf_h (sp_clear S).2 ∧ nx = nx') := by
    intro d
    induction d with
    | zero =>
      intro i hi
      have e : i = 8 := by omega
      subst e
      iterate 2 (refine mj_r_pure rfl rfl ?_)
      refine mj_r_icmp_ge rfl (fun c1 => ?_) (fun c1 => absurd c1 (fun q => q (nI_le (a := 8) (b := 8) (Nat.le_refl _) (by omega))))
      refine mj_r_pure rfl rfl ?_
      exact mj_r_iret rfl rfl rfl ⟨rfl, rfl, rfl⟩
    | succ d ih =>
      intro i hi
      have e := ih (i + 1) (by omega)
      iterate 2 (refine mj_r_pure rfl rfl ?_)
      refine mj_r_icmp_ge rfl (fun c1 => absurd c1 (nI_ge (a := i) (b := 8) (by omega) (by omega))) (fun c1 => ?_)
      refine mj_r_pure rfl rfl ?_
      refine rr_get rfl rfl rfl ?_
      iterate 2 (refine mj_r_pure rfl rfl ?_)
      refine rx_iast rfl rfl (by first | rfl | assumption) (by omega) ?_
      iterate 2 (refine mj_r_pure rfl rfl ?_)
      rw [nI_1]; exact e
  exact go 8 0 rfl
def sp_cpy (S : rf_S) (n : Nat) : Nat → rf_S
  | 0 => S
  | k + 1 => sA (sA (sA (sA (sp_cpy S n k) 0 (24 * n + k) ((sp_cpy S n k).1 0 (192 + k))) 1 (24 * n + k) ((sp_cpy S n k).1 1 (192 + k))) 2 (24 * n + k) ((sp_cpy S n k).1 2 (192 + k))) 3 (24 * n + k) ((sp_cpy S n k).1 3 (192 + k))
theorem sp_cpy_kp (S : rf_S) (n k : Nat) : kp [0, 1, 2, 3] S (sp_cpy S n k) := by
  induction k with
  | zero => exact kp.rf S
  | succ k ih => exact (((ih.a (by decide) _ _).a (by decide) _ _).a (by decide) _ _).a (by decide) _ _
def sp_batch1 (T : rf_S) (n : Nat) (c0 c1 c2 c3 r : Int32) : rf_S :=
  sI (sI (sA (sA (sA (sA (sA (sA T 6 n (T.1 4 0)) 7 (4 * n) c0) 7 (4 * n + 1) c1) 7 (4 * n + 2) c2) 7 (4 * n + 3) c3) 8 n (1 <<< (r &&& 31))) 4 0) 5 (T.1 5 0 + 1)
def sp_batch (S : rf_S) (c0 c1 c2 c3 r : Int32) : Int32 × rf_S :=
  if ¬ S.1 4 0 = 0 ∧ (0 ≤ r ∧ r ≤ 10) ∧ ¬ S.1 5 0 = 8 then (S.1 5 0, sp_batch1 (sp_cpy S (S.1 5 0).toNatClampNeg (S.1 4 0).toNatClampNeg) (S.1 5 0).toNatClampNeg c0 c1 c2 c3 r) else (-1, S)
set_option maxRecDepth 20000 in
set_option maxHeartbeats 4000000 in
theorem rl_cpy {Q : mj_post} {g : mj_H} {nx n dr kc ks : Nat} {S : rf_S} {c0 c1 c2 c3 r : Int32} (hn : n < 8) (hdr : S.1 4 0 = nI dr) (h24 : dr ≤ 24) (k : mj_W me_Ref_batch 128 [(0, .ref 21), (1, .int c0), (2, .int c1), (3, .int c2), (4, .int c3), (5, .int r), (6, .int (nI n))] [] (rf_h (sp_cpy S n dr)) g nx kc ks Q) : ∀ (d i : Nat) (lv : List (Nat × Value)), i + d = dr → mj_pk lv [0, 1, 2, 3, 4, 5, 6, 7] = some [(0, .ref 21), (1, .int c0), (2, .int c1), (3, .int c2), (4, .int c3), (5, .int r), (6, .int (nI n)), (7, .int (nI i))] → mj_W me_Ref_batch 39 lv [] (rf_h (sp_cpy S n i)) g nx kc ks Q := by
  intro d
  induction d with
  | zero =>
    intro i lv hi hlv
    have e : i = dr := by omega
    subst e
    refine mj_W.fewer _ hlv ?_
    iterate 2 (refine mj_r_pure rfl rfl ?_)
    refine rr_get rfl rfl rfl ?_
    refine mj_r_icmp_ge rfl (fun c1 => ?_) (fun c1 => absurd c1 (fun q => q (by rw [(sp_cpy_kp S n i).1 4 (by decide), hdr]; exact nI_le (Nat.le_refl _) (by omega))))
    exact mj_W.fewer [0, 1, 2, 3, 4, 5, 6] rfl k
  | succ d ih =>
    intro i lv hi hlv
    refine mj_W.fewer _ hlv ?_
    iterate 2 (refine mj_r_pure rfl rfl ?_)
    refine rr_get rfl rfl rfl ?_
    refine mj_r_icmp_ge rfl (fun c1 => absurd c1 (by rw [(sp_cpy_kp S n i).1 4 (by decide), hdr]; exact nI_ge (by omega) (by omega))) (fun c1 => ?_)
    iterate 11 (refine mj_r_pure rfl rfl ?_)
    refine rr_get rfl rfl rfl ?_
    iterate 2 (refine mj_r_pure rfl rfl ?_)
    refine rr_get rfl rfl rfl ?_
    refine mj_r_pure rfl rfl ?_
    refine rx_iald rfl rfl (ix_add (x := 192) rfl rfl) (by omega) ?_
    refine rx_iast rfl rfl (ix_add (ix_mul (x := 24) rfl rfl) rfl) (by omega) ?_
    refine mj_r_pure rfl rfl ?_
    refine rr_get rfl rfl rfl ?_
    iterate 2 (refine mj_r_pure rfl rfl ?_)
    refine rr_get rfl rfl rfl ?_
    refine mj_r_pure rfl rfl ?_
    refine rx_iald rfl rfl (ix_add (x := 192) rfl rfl) (by omega) ?_
    refine rx_iast rfl rfl (ix_add (ix_mul (x := 24) rfl rfl) rfl) (by omega) ?_
    refine mj_r_pure rfl rfl ?_
    refine rr_get rfl rfl rfl ?_
    iterate 2 (refine mj_r_pure rfl rfl ?_)
    refine rr_get rfl rfl rfl ?_
    refine mj_r_pure rfl rfl ?_
    refine rx_iald rfl rfl (ix_add (x := 192) rfl rfl) (by omega) ?_
    refine rx_iast rfl rfl (ix_add (ix_mul (x := 24) rfl rfl) rfl) (by omega) ?_
    refine mj_r_pure rfl rfl ?_
    refine rr_get rfl rfl rfl ?_
    iterate 2 (refine mj_r_pure rfl rfl ?_)
    refine rr_get rfl rfl rfl ?_
    refine mj_r_pure rfl rfl ?_
    refine rx_iald rfl rfl (ix_add (x := 192) rfl rfl) (by omega) ?_
    refine rx_iast rfl rfl (ix_add (ix_mul (x := 24) rfl rfl) rfl) (by omega) ?_
    iterate 2 (refine mj_r_pure rfl rfl ?_)
    exact ih (i + 1) _ (by omega) (by rw [← nI_1]; rfl)
set_option maxRecDepth 20000 in
set_option maxHeartbeats 4000000 in
theorem K_Ref_batch (S : rf_S) (c0 c1 c2 c3 r : Int32) (nx dr nb : Nat) (hdr : S.1 4 0 = nI dr) (h24 : dr ≤ 24) (hnb : S.1 5 0 = nI nb) (h8 : nb ≤ 8) : rKi me_Ref_batch [.int c0, .int c1, .int c2, .int c3, .int r] S nx (sp_batch S c0 c1 c2 c3 r) := by
  refine mj_K.of ok_Ref_batch ck_Ref_batch (Nat.le_of_ble_eq_true rfl) ?_
  have fin : nb < 8 → ∀ Q : mj_post, Q.2 (some (.int (nI nb))) (rf_h (sp_batch1 (sp_cpy S nb dr) nb c0 c1 c2 c3 r)) mj_0 nx → mj_W me_Ref_batch 128 [(0, .ref 21), (1, .int c0), (2, .int c1), (3, .int c2), (4, .int c3), (5, .int r), (6, .int (nI nb))] [] (rf_h (sp_cpy S nb dr)) mj_0 nx 0 0 Q := fun hn Q hQ => by
    generalize sp_cpy S nb dr = T at hQ ⊢
    refine mj_r_pure rfl rfl ?_
    refine rr_get rfl rfl rfl ?_
    iterate 2 (refine mj_r_pure rfl rfl ?_)
    refine rr_get rfl rfl rfl ?_
    refine rx_iast rfl rfl (by first | rfl | assumption) (by omega) ?_
    refine mj_r_pure rfl rfl ?_
    refine rr_get rfl rfl rfl ?_
    iterate 4 (refine mj_r_pure rfl rfl ?_)
    refine rx_iast rfl rfl (ix_mul (x := 4) rfl rfl) (by omega) ?_
    refine mj_r_pure rfl rfl ?_
    refine rr_get rfl rfl rfl ?_
    iterate 6 (refine mj_r_pure rfl rfl ?_)
    refine rx_iast rfl rfl (ix_add (y := 1) (ix_mul (x := 4) rfl rfl) rfl) (by omega) ?_
    refine mj_r_pure rfl rfl ?_
    refine rr_get rfl rfl rfl ?_
    iterate 6 (refine mj_r_pure rfl rfl ?_)
    refine rx_iast rfl rfl (ix_add (y := 2) (ix_mul (x := 4) rfl rfl) rfl) (by omega) ?_
    refine mj_r_pure rfl rfl ?_
    refine rr_get rfl rfl rfl ?_
    iterate 6 (refine mj_r_pure rfl rfl ?_)
    refine rx_iast rfl rfl (ix_add (y := 3) (ix_mul (x := 4) rfl rfl) rfl) (by omega) ?_
    refine mj_r_pure rfl rfl ?_
    refine rr_get rfl rfl rfl ?_
    iterate 4 (refine mj_r_pure rfl rfl ?_)
    refine rx_iast rfl rfl (by first | rfl | assumption) (by omega) ?_
    iterate 2 (refine mj_r_pure rfl rfl ?_)
    refine rr_putI rfl rfl (by decide) ?_
    iterate 2 (refine mj_r_pure rfl rfl ?_)
    refine rr_get rfl rfl rfl ?_
    iterate 2 (refine mj_r_pure rfl rfl ?_)
    refine rr_putI rfl rfl (by decide) ?_
    refine mj_r_pure rfl rfl ?_
    exact mj_r_iret rfl rfl rfl (hQ)
  refine mj_r_pure rfl rfl ?_
  refine rr_get rfl rfl rfl ?_
  refine mj_r_if_eq rfl (fun z1 => ?_) (fun z1 => ?_)
  · refine mj_r_pure rfl rfl ?_
    exact mj_r_iret rfl rfl rfl (rq (by refine if_neg (fun q => ?_); exact q.1 z1))
  · refine mj_r_pure rfl rfl ?_
    refine mj_r_if_lt rfl (fun z2 => ?_) (fun z2 => ?_)
    · refine mj_r_pure rfl rfl ?_
      exact mj_r_iret rfl rfl rfl (rq (by refine if_neg (fun q => ?_); exact absurd q.2.1.1 (lt0_nge z2)))
    · iterate 2 (refine mj_r_pure rfl rfl ?_)
      refine mj_r_icmp_gt rfl (fun z3 => ?_) (fun z3 => ?_)
      · refine mj_r_pure rfl rfl ?_
        exact mj_r_iret rfl rfl rfl (rq (by refine if_neg (fun q => ?_); exact absurd q.2.1.2 (lt_nle z3)))
      · refine mj_r_pure rfl rfl ?_
        refine rr_get rfl rfl rfl ?_
        refine mj_r_pure rfl rfl ?_
        refine mj_r_icmp_ne rfl (fun z4 => ?_) (fun z4 => ?_)
        · have hn : nb < 8 := by
            rcases Nat.lt_or_ge nb 8 with q | q
            · exact q
            · exact absurd (hnb.trans (by rw [show nb = 8 by omega]; rfl)) z4
          refine mj_r_pure rfl rfl ?_
          refine rr_get rfl rfl rfl ?_
          iterate 3 (refine mj_r_pure rfl rfl ?_)
          exact rl_cpy hn hdr h24 (fin hn _ (rq (by rw [sp_batch, if_pos ⟨z1, ⟨nlt0_le z2, nlt_le z3⟩, z4⟩, hnb, hdr, nI_clamp (by omega), nI_clamp (by omega)]))) dr 0 _ (by omega) (by rw [← hnb]; rfl)
        · refine mj_r_pure rfl rfl ?_
          exact mj_r_iret rfl rfl rfl (rq (by refine if_neg (fun q => ?_); exact q.2.2 z4))
