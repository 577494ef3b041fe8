/-! the law: its calls, on -/
set_option maxRecDepth 20000 in
set_option maxHeartbeats 4000000 in
theorem lw_c14 {L : Nat} {xs : Nat → Int32} {i d T nx : Nat} {h : mj_H} {S : rf_S} (hL31 : L < 2 ^ 31) (hi : i + 10 < L) (hT : T + 200 < 2 ^ 28) (J : inv h S nx T) (ih : lw_N L xs d i (T + 200)) : mj_W me_law 996 (lw_v i) [] h (rf_h S) nx (4 * (d + 1)) (33 * (d + 1)) (lw_q L xs) := by
  obtain ⟨nb, dr, n, nc, nd, I⟩ := J
  obtain ⟨pa, ht⟩ := I.top
  unfold lw_v lw_q lw_N at *
  refine mj_W.le (kc' := 4 * d + 0) (ks' := 33 * d + 0) (by omega) (by omega) ?_
  iterate 5 (refine mj_r_pure rfl rfl ?_)
  refine cx_sald rfl (ix_add (x := i) (y := 1) rfl rfl) (by omega) hL31 ?_
  refine mj_r_cV (ci := 9) (kc := 4 * d) (ks := 33 * d) rfl li_Law_82 ck_Top_tick iv_Top_tick (by decide) ((K_id (V_tick I hT (xs (i + 1))))) rfl rfl (Nat.le_of_ble_eq_true rfl) rfl ht ?_
  rintro _ h1 nx1 ⟨rfl, J1⟩ _
  iterate 5 (refine mj_r_pure rfl rfl ?_)
  refine cx_sald rfl (ix_add (x := i) (y := 1) rfl rfl) (by omega) hL31 ?_
  refine mj_W.swap ?_
  refine mj_r_cV0 (ci := 10)  rfl li_Law_85 ck_Ref_tick iv_Ref_tick (by decide) ((K_id (K_Ref_tick S (xs (i + 1)) nx1 nc nd I.wD))) rfl rfl (Nat.le_of_ble_eq_true rfl) rfl rfl ?_
  rintro _ _ _ ⟨rfl, rfl, rfl⟩ _
  refine mj_W.swap ?_
  refine mj_r_icmp_eq rfl (fun c1 => ?_) (fun c1 => absurd c1 (fun q => q rfl))
  exact ih _ _ _ J1
set_option maxRecDepth 20000 in
set_option maxHeartbeats 4000000 in
theorem lw_c15 {L : Nat} {xs : Nat → Int32} {i d T nx : Nat} {h : mj_H} {S : rf_S} (hL31 : L < 2 ^ 31) (hi : i + 10 < L) (hT : T + 200 < 2 ^ 28) (J : inv h S nx T) (ih : lw_N L xs d i (T + 200)) : mj_W me_law 1019 (lw_v i) [] h (rf_h S) nx (4 * (d + 1)) (33 * (d + 1)) (lw_q L xs) := by
  obtain ⟨nb, dr, n, nc, nd, I⟩ := J
  obtain ⟨pa, ht⟩ := I.top
  unfold lw_v lw_q lw_N at *
  refine mj_W.le (kc' := 4 * d + 0) (ks' := 33 * d + 0) (by omega) (by omega) ?_
  iterate 5 (refine mj_r_pure rfl rfl ?_)
  refine cx_sald rfl (ix_add (x := i) (y := 1) rfl rfl) (by omega) hL31 ?_
  iterate 4 (refine mj_r_pure rfl rfl ?_)
  refine cx_sald rfl (ix_add (x := i) (y := 2) rfl rfl) (by omega) hL31 ?_
  refine mj_r_cV (ci := 9) (kc := 4 * d) (ks := 33 * d) rfl li_Law_86 ck_Top_ofClaim iv_Top_ofClaim (by decide) ((K_id (V_ofClaim I (xs (i + 1)) (xs (i + 2))))) rfl rfl (Nat.le_of_ble_eq_true rfl) rfl ht ?_
  rintro _ h1 nx1 ⟨rfl, J1⟩ _
  iterate 5 (refine mj_r_pure rfl rfl ?_)
  refine cx_sald rfl (ix_add (x := i) (y := 1) rfl rfl) (by omega) hL31 ?_
  iterate 4 (refine mj_r_pure rfl rfl ?_)
  refine cx_sald rfl (ix_add (x := i) (y := 2) rfl rfl) (by omega) hL31 ?_
  refine mj_W.swap ?_
  refine mj_r_cV0 (ci := 10)  rfl li_Law_89 ck_Ref_ofClaim iv_Ref_ofClaim (by decide) ((K_id (K_Ref_ofClaim S (xs (i + 1)) (xs (i + 2)) nx1 nc nd I.enc I.c40 I.end_ I.d80))) rfl rfl (Nat.le_of_ble_eq_true rfl) rfl rfl ?_
  rintro _ _ _ ⟨rfl, rfl, rfl⟩ _
  refine mj_W.swap ?_
  refine mj_r_icmp_eq rfl (fun c1 => ?_) (fun c1 => absurd c1 (fun q => q rfl))
  exact ih _ _ _ J1
set_option maxRecDepth 20000 in
set_option maxHeartbeats 4000000 in
theorem lw_c16 {L : Nat} {xs : Nat → Int32} {i d T nx : Nat} {h : mj_H} {S : rf_S} (hL31 : L < 2 ^ 31) (hi : i + 10 < L) (hT : T + 200 < 2 ^ 28) (J : inv h S nx T) (ih : lw_N L xs d i (T + 200)) : mj_W me_law 1052 (lw_v i) [] h (rf_h S) nx (4 * (d + 1)) (33 * (d + 1)) (lw_q L xs) := by
  obtain ⟨nb, dr, n, nc, nd, I⟩ := J
  obtain ⟨pa, ht⟩ := I.top
  unfold lw_v lw_q lw_N at *
  refine mj_W.le (kc' := 4 * d + 0) (ks' := 33 * d + 0) (by omega) (by omega) ?_
  iterate 5 (refine mj_r_pure rfl rfl ?_)
  refine cx_sald rfl (ix_add (x := i) (y := 1) rfl rfl) (by omega) hL31 ?_
  iterate 4 (refine mj_r_pure rfl rfl ?_)
  refine cx_sald rfl (ix_add (x := i) (y := 2) rfl rfl) (by omega) hL31 ?_
  refine mj_r_cV (ci := 9) (kc := 4 * d) (ks := 33 * d) rfl li_Law_90 ck_Top_ofDispute iv_Top_ofDispute (by decide) ((K_id (V_ofDispute I (xs (i + 1)) (xs (i + 2))))) rfl rfl (Nat.le_of_ble_eq_true rfl) rfl ht ?_
  rintro _ h1 nx1 ⟨rfl, J1⟩ _
  iterate 5 (refine mj_r_pure rfl rfl ?_)
  refine cx_sald rfl (ix_add (x := i) (y := 1) rfl rfl) (by omega) hL31 ?_
  iterate 4 (refine mj_r_pure rfl rfl ?_)
  refine cx_sald rfl (ix_add (x := i) (y := 2) rfl rfl) (by omega) hL31 ?_
  refine mj_W.swap ?_
  refine mj_r_cV0 (ci := 10)  rfl li_Law_93 ck_Ref_ofDispute iv_Ref_ofDispute (by decide) ((K_id (K_Ref_ofDispute S (xs (i + 1)) (xs (i + 2)) nx1 nd I.end_ I.d80))) rfl rfl (Nat.le_of_ble_eq_true rfl) rfl rfl ?_
  rintro _ _ _ ⟨rfl, rfl, rfl⟩ _
  refine mj_W.swap ?_
  refine mj_r_icmp_eq rfl (fun c1 => ?_) (fun c1 => absurd c1 (fun q => q rfl))
  exact ih _ _ _ J1
set_option maxRecDepth 20000 in
set_option maxHeartbeats 4000000 in
theorem lw_c17 {L : Nat} {xs : Nat → Int32} {i d T nx : Nat} {h : mj_H} {S : rf_S} (hL31 : L < 2 ^ 31) (hi : i + 10 < L) (hT : T + 200 < 2 ^ 28) (J : inv h S nx T) (ih : lw_N L xs d i (T + 200)) : mj_W me_law 1085 (lw_v i) [] h (rf_h S) nx (4 * (d + 1)) (33 * (d + 1)) (lw_q L xs) := by
  obtain ⟨nb, dr, n, nc, nd, I⟩ := J
  obtain ⟨pa, ht⟩ := I.top
  unfold lw_v lw_q lw_N at *
  refine mj_W.le (kc' := 4 * d + 0) (ks' := 33 * d + 0) (by omega) (by omega) ?_
  iterate 5 (refine mj_r_pure rfl rfl ?_)
  refine cx_sald rfl (ix_add (x := i) (y := 1) rfl rfl) (by omega) hL31 ?_
  iterate 4 (refine mj_r_pure rfl rfl ?_)
  refine cx_sald rfl (ix_add (x := i) (y := 2) rfl rfl) (by omega) hL31 ?_
  refine mj_r_cV (ci := 9) (kc := 4 * d) (ks := 33 * d) rfl li_Law_94 ck_Top_digest iv_Top_digest (by decide) ((K_id (V_digest I (xs (i + 1)) (xs (i + 2))))) rfl rfl (Nat.le_of_ble_eq_true rfl) rfl ht ?_
  rintro _ h1 nx1 ⟨rfl, J1⟩ _
  iterate 5 (refine mj_r_pure rfl rfl ?_)
  refine cx_sald rfl (ix_add (x := i) (y := 1) rfl rfl) (by omega) hL31 ?_
  iterate 4 (refine mj_r_pure rfl rfl ?_)
  refine cx_sald rfl (ix_add (x := i) (y := 2) rfl rfl) (by omega) hL31 ?_
  refine mj_W.swap ?_
  refine mj_r_cV0 (ci := 10)  rfl li_Law_97 ck_Ref_digest iv_Ref_digest (by decide) ((K_id (K_Ref_digest S (xs (i + 1)) (xs (i + 2)) nx1 nd I.end_ I.d80))) rfl rfl (Nat.le_of_ble_eq_true rfl) rfl rfl ?_
  rintro _ _ _ ⟨rfl, rfl, rfl⟩ _
  refine mj_W.swap ?_
  refine mj_r_pure rfl rfl ?_
  refine mj_r_if_eq rfl (fun c1 => ?_) (fun c1 => absurd c1 (fun q => q (lg0.mpr rfl)))
  exact ih _ _ _ J1
