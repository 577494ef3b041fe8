/-! the law: its calls, on -/
set_option maxRecDepth 20000 in
set_option maxHeartbeats 4000000 in
theorem lw_c6 {L : Nat} {xs : Nat → Int32} {i d T nx : Nat} {h : mj_H} {S : rf_S} (hL31 : L < 2 ^ 31) (hi : i + 10 < L) (hT : T + 200 < 2 ^ 28) (J : inv h S nx T) (ih : lw_N L xs d i (T + 200)) : mj_W me_law 442 (lw_v i) [] h (rf_h S) nx (4 * (d + 1)) (33 * (d + 1)) (lw_q L xs) := by
  obtain ⟨nb, dr, n, nc, nd, I⟩ := J
  obtain ⟨pa, ht⟩ := I.top
  unfold lw_v lw_q lw_N at *
  refine mj_W.le (kc' := 4 * d + 1) (ks' := 33 * d + 12) (by omega) (by omega) ?_
  iterate 5 (refine mj_r_pure rfl rfl ?_)
  refine cx_sald rfl (ix_add (x := i) (y := 1) rfl rfl) (by omega) hL31 ?_
  iterate 4 (refine mj_r_pure rfl rfl ?_)
  refine cx_sald rfl (ix_add (x := i) (y := 2) rfl rfl) (by omega) hL31 ?_
  refine mj_r_cV (ci := 9) (kc := 4 * d) (ks := 33 * d) rfl li_Law_45 ck_Top_dispute iv_Top_dispute (by decide) ((K_id (V_dispute I (xs (i + 1)) (xs (i + 2))))) rfl rfl (Nat.le_of_ble_eq_true rfl) rfl ht ?_
  rintro _ h1 nx1 ⟨rfl, J1⟩ _
  iterate 5 (refine mj_r_pure rfl rfl ?_)
  refine cx_sald rfl (ix_add (x := i) (y := 1) rfl rfl) (by omega) hL31 ?_
  iterate 4 (refine mj_r_pure rfl rfl ?_)
  refine cx_sald rfl (ix_add (x := i) (y := 2) rfl rfl) (by omega) hL31 ?_
  refine mj_W.swap ?_
  refine mj_r_cV0 (ci := 10)  rfl li_Law_49 ck_Ref_dispute iv_Ref_dispute (by decide) ((K_id (K_Ref_dispute_open hrot S (xs (i + 1)) (xs (i + 2)) nx1 nc nd nb I.wP I.enb I.b8 I.enc I.c40 I.end_ I.d80 I.cb I.st))) rfl rfl (Nat.le_of_ble_eq_true rfl) rfl rfl ?_
  rintro _ _ _ ⟨rfl, rfl, m, ndf, rfl⟩ _
  refine mj_W.swap ?_
  refine mj_r_icmp_eq rfl (fun c1 => ?_) (fun c1 => absurd c1 (fun q => q rfl))
  exact ih _ _ _ (J1.sX m ndf)
set_option maxRecDepth 20000 in
set_option maxHeartbeats 4000000 in
theorem lw_c7 {L : Nat} {xs : Nat → Int32} {i d T nx : Nat} {h : mj_H} {S : rf_S} (hL31 : L < 2 ^ 31) (hi : i + 10 < L) (hT : T + 200 < 2 ^ 28) (J : inv h S nx T) (ih : lw_N L xs d i (T + 200)) : mj_W me_law 475 (lw_v i) [] h (rf_h S) nx (4 * (d + 1)) (33 * (d + 1)) (lw_q L xs) := by
  obtain ⟨nb, dr, n, nc, nd, I⟩ := J
  obtain ⟨pa, ht⟩ := I.top
  unfold lw_v lw_q lw_N at *
  refine mj_W.le (kc' := 4 * d + 0) (ks' := 33 * d + 0) (by omega) (by omega) ?_
  iterate 5 (refine mj_r_pure rfl rfl ?_)
  refine cx_sald rfl (ix_add (x := i) (y := 1) rfl rfl) (by omega) hL31 ?_
  iterate 4 (refine mj_r_pure rfl rfl ?_)
  refine cx_sald rfl (ix_add (x := i) (y := 2) rfl rfl) (by omega) hL31 ?_
  iterate 7 (refine mj_r_pure rfl rfl ?_)
  refine cx_sald rfl (ix_add (x := i) (y := 3) rfl rfl) (by omega) hL31 ?_
  iterate 4 (refine mj_r_pure rfl rfl ?_)
  refine mj_r_cV (ci := 9) (kc := 4 * d) (ks := 33 * d) rfl li_Law_50 ck_Top_tell iv_Top_tell (by decide) ((K_id (V_tell I (xs (i + 1)) _))) rfl rfl (Nat.le_of_ble_eq_true rfl) rfl ht ?_
  rintro _ h1 nx1 ⟨rfl, J1⟩ _
  iterate 5 (refine mj_r_pure rfl rfl ?_)
  refine cx_sald rfl (ix_add (x := i) (y := 1) rfl rfl) (by omega) hL31 ?_
  iterate 4 (refine mj_r_pure rfl rfl ?_)
  refine cx_sald rfl (ix_add (x := i) (y := 2) rfl rfl) (by omega) hL31 ?_
  iterate 7 (refine mj_r_pure rfl rfl ?_)
  refine cx_sald rfl (ix_add (x := i) (y := 3) rfl rfl) (by omega) hL31 ?_
  iterate 4 (refine mj_r_pure rfl rfl ?_)
  refine mj_W.swap ?_
  refine mj_r_cV0 (ci := 10)  rfl li_Law_54 ck_Ref_tell iv_Ref_tell (by decide) ((K_id (K_Ref_tell S (xs (i + 1)) _ nx1 nd I.end_ I.d80))) rfl rfl (Nat.le_of_ble_eq_true rfl) rfl rfl ?_
  rintro _ _ _ ⟨rfl, rfl, rfl⟩ _
  refine mj_W.swap ?_
  refine mj_r_icmp_eq rfl (fun c1 => ?_) (fun c1 => absurd c1 (fun q => q rfl))
  exact ih _ _ _ J1
set_option maxRecDepth 20000 in
set_option maxHeartbeats 4000000 in
theorem lw_c8 {L : Nat} {xs : Nat → Int32} {i d T nx : Nat} {h : mj_H} {S : rf_S} (hL31 : L < 2 ^ 31) (hi : i + 10 < L) (hT : T + 200 < 2 ^ 28) (J : inv h S nx T) (ih : lw_N L xs d i (T + 200)) : mj_W me_law 538 (lw_v i) [] h (rf_h S) nx (4 * (d + 1)) (33 * (d + 1)) (lw_q L xs) := by
  obtain ⟨nb, dr, n, nc, nd, I⟩ := J
  obtain ⟨pa, ht⟩ := I.top
  unfold lw_v lw_q lw_N at *
  refine mj_W.le (kc' := 4 * d + 0) (ks' := 33 * d + 0) (by omega) (by omega) ?_
  iterate 5 (refine mj_r_pure rfl rfl ?_)
  refine cx_sald rfl (ix_add (x := i) (y := 1) rfl rfl) (by omega) hL31 ?_
  iterate 4 (refine mj_r_pure rfl rfl ?_)
  refine cx_sald rfl (ix_add (x := i) (y := 2) rfl rfl) (by omega) hL31 ?_
  refine mj_r_cV (ci := 9) (kc := 4 * d) (ks := 33 * d) rfl li_Law_55 ck_Top_choose iv_Top_choose (by decide) ((K_id (V_choose I (xs (i + 1)) (xs (i + 2))))) rfl rfl (Nat.le_of_ble_eq_true rfl) rfl ht ?_
  rintro _ h1 nx1 ⟨rfl, J1⟩ _
  iterate 5 (refine mj_r_pure rfl rfl ?_)
  refine cx_sald rfl (ix_add (x := i) (y := 1) rfl rfl) (by omega) hL31 ?_
  iterate 4 (refine mj_r_pure rfl rfl ?_)
  refine cx_sald rfl (ix_add (x := i) (y := 2) rfl rfl) (by omega) hL31 ?_
  refine mj_W.swap ?_
  refine mj_r_cV0 (ci := 10)  rfl li_Law_58 ck_Ref_choose iv_Ref_choose (by decide) ((K_id (K_Ref_choose S (xs (i + 1)) (xs (i + 2)) nx1 nd I.end_ I.d80))) rfl rfl (Nat.le_of_ble_eq_true rfl) rfl rfl ?_
  rintro _ _ _ ⟨rfl, rfl, rfl⟩ _
  refine mj_W.swap ?_
  refine mj_r_icmp_eq rfl (fun c1 => ?_) (fun c1 => absurd c1 (fun q => q rfl))
  exact ih _ _ _ J1
