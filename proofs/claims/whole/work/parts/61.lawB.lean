/-! the law: its calls, on -/
set_option maxRecDepth 20000 in
set_option maxHeartbeats 4000000 in
theorem lw_c3 {L : Nat} {xs : Nat → Int32} {i d T nx : Nat} {h : mj_H} {S : rf_S} (hL31 : L < 2 ^ 31) (hi : i + 10 < L) (hT : T + 200 < 2 ^ 28) (J : inv h S nx T) (ih : lw_N L xs d i (T + 200)) : mj_W me_law 282 (lw_v i) [] h (rf_h S) nx (4 * (d + 1)) (33 * (d + 1)) (lw_q L xs) := by
  obtain ⟨nb, dr, n, nc, nd, I⟩ := J
  obtain ⟨pa, ht⟩ := I.top
  unfold lw_v lw_q lw_N at *
  refine mj_W.le (kc' := 4 * d + 0) (ks' := 33 * d + 0) (by omega) (by omega) ?_
  iterate 5 (refine mj_r_pure rfl rfl ?_)
  refine cx_sald rfl (ix_add (x := i) (y := 1) rfl rfl) (by omega) hL31 ?_
  iterate 4 (refine mj_r_pure rfl rfl ?_)
  refine cx_sald rfl (ix_add (x := i) (y := 2) rfl rfl) (by omega) hL31 ?_
  iterate 4 (refine mj_r_pure rfl rfl ?_)
  refine cx_sald rfl (ix_add (x := i) (y := 3) rfl rfl) (by omega) hL31 ?_
  refine mj_r_cV (ci := 9) (kc := 4 * d) (ks := 33 * d) rfl li_Law_28 ck_Top_state iv_Top_state (by decide) ((K_id (V_state I (xs (i + 1)) (xs (i + 2)) (xs (i + 3))))) rfl rfl (Nat.le_of_ble_eq_true rfl) rfl ht ?_
  rintro _ h1 nx1 ⟨rfl, J1⟩ _
  iterate 5 (refine mj_r_pure rfl rfl ?_)
  refine cx_sald rfl (ix_add (x := i) (y := 1) rfl rfl) (by omega) hL31 ?_
  iterate 4 (refine mj_r_pure rfl rfl ?_)
  refine cx_sald rfl (ix_add (x := i) (y := 2) rfl rfl) (by omega) hL31 ?_
  iterate 4 (refine mj_r_pure rfl rfl ?_)
  refine cx_sald rfl (ix_add (x := i) (y := 3) rfl rfl) (by omega) hL31 ?_
  refine mj_W.swap ?_
  refine mj_r_cV0 (ci := 10)  rfl li_Law_32 ck_Ref_state iv_Ref_state (by decide) ((K_id (K_Ref_state_open hrot S (xs (i + 1)) (xs (i + 2)) (xs (i + 3)) nx1 nb I.wP I.enb I.b8))) rfl rfl (Nat.le_of_ble_eq_true rfl) rfl rfl ?_
  rintro _ _ _ ⟨rfl, rfl, m, ndf, rfl⟩ _
  refine mj_W.swap ?_
  refine mj_r_icmp_eq rfl (fun c1 => ?_) (fun c1 => absurd c1 (fun q => q rfl))
  exact ih _ _ _ (J1.sX m ndf)
set_option maxRecDepth 20000 in
set_option maxHeartbeats 4000000 in
theorem lw_c4 {L : Nat} {xs : Nat → Int32} {i d T nx : Nat} {h : mj_H} {S : rf_S} (hL31 : L < 2 ^ 31) (hi : i + 10 < L) (hT : T + 200 < 2 ^ 28) (J : inv h S nx T) (ih : lw_N L xs d i (T + 200)) : mj_W me_law 325 (lw_v i) [] h (rf_h S) nx (4 * (d + 1)) (33 * (d + 1)) (lw_q L xs) := by
  obtain ⟨nb, dr, n, nc, nd, I⟩ := J
  obtain ⟨pa, ht⟩ := I.top
  unfold lw_v lw_q lw_N at *
  refine mj_W.le (kc' := 4 * d + 0) (ks' := 33 * d + 0) (by omega) (by omega) ?_
  iterate 5 (refine mj_r_pure rfl rfl ?_)
  refine cx_sald rfl (ix_add (x := i) (y := 1) rfl rfl) (by omega) hL31 ?_
  iterate 4 (refine mj_r_pure rfl rfl ?_)
  refine cx_sald rfl (ix_add (x := i) (y := 2) rfl rfl) (by omega) hL31 ?_
  iterate 4 (refine mj_r_pure rfl rfl ?_)
  refine cx_sald rfl (ix_add (x := i) (y := 3) rfl rfl) (by omega) hL31 ?_
  refine mj_r_cV (ci := 9) (kc := 4 * d) (ks := 33 * d) rfl li_Law_33 ck_Top_node iv_Top_node (by decide) ((K_id (V_node I (xs (i + 1)) (xs (i + 2)) (xs (i + 3))))) rfl rfl (Nat.le_of_ble_eq_true rfl) rfl ht ?_
  rintro _ h1 nx1 ⟨rfl, J1⟩ _
  iterate 5 (refine mj_r_pure rfl rfl ?_)
  refine cx_sald rfl (ix_add (x := i) (y := 1) rfl rfl) (by omega) hL31 ?_
  iterate 4 (refine mj_r_pure rfl rfl ?_)
  refine cx_sald rfl (ix_add (x := i) (y := 2) rfl rfl) (by omega) hL31 ?_
  iterate 4 (refine mj_r_pure rfl rfl ?_)
  refine cx_sald rfl (ix_add (x := i) (y := 3) rfl rfl) (by omega) hL31 ?_
  refine mj_W.swap ?_
  refine mj_r_cV0 (ci := 10)  rfl li_Law_37 ck_Ref_node iv_Ref_node (by decide) ((K_id (K_Ref_node_open hrot S (xs (i + 1)) (xs (i + 2)) (xs (i + 3)) nx1 nb I.wP I.enb I.b8))) rfl rfl (Nat.le_of_ble_eq_true rfl) rfl rfl ?_
  rintro _ _ _ ⟨rfl, rfl, m, ndf, rfl⟩ _
  refine mj_W.swap ?_
  refine mj_r_pure rfl rfl ?_
  refine mj_r_if_eq rfl (fun c1 => ?_) (fun c1 => absurd c1 (fun q => q (lg0.mpr rfl)))
  exact ih _ _ _ (J1.sX m ndf)
set_option maxRecDepth 20000 in
set_option maxHeartbeats 4000000 in
theorem lw_c5 {L : Nat} {xs : Nat → Int32} {i d T nx : Nat} {h : mj_H} {S : rf_S} (hL31 : L < 2 ^ 31) (hi : i + 10 < L) (hT : T + 200 < 2 ^ 28) (J : inv h S nx T) (ih : lw_N L xs d i (T + 200)) : mj_W me_law 369 (lw_v i) [] h (rf_h S) nx (4 * (d + 1)) (33 * (d + 1)) (lw_q L xs) := by
  obtain ⟨nb, dr, n, nc, nd, I⟩ := J
  obtain ⟨pa, ht⟩ := I.top
  unfold lw_v lw_q lw_N at *
  refine mj_W.le (kc' := 4 * d + 1) (ks' := 33 * d + 7) (by omega) (by omega) ?_
  iterate 5 (refine mj_r_pure rfl rfl ?_)
  refine cx_sald rfl (ix_add (x := i) (y := 1) rfl rfl) (by omega) hL31 ?_
  iterate 4 (refine mj_r_pure rfl rfl ?_)
  refine cx_sald rfl (ix_add (x := i) (y := 2) rfl rfl) (by omega) hL31 ?_
  iterate 4 (refine mj_r_pure rfl rfl ?_)
  refine cx_sald rfl (ix_add (x := i) (y := 3) rfl rfl) (by omega) hL31 ?_
  iterate 7 (refine mj_r_pure rfl rfl ?_)
  refine cx_sald rfl (ix_add (x := i) (y := 4) rfl rfl) (by omega) hL31 ?_
  iterate 4 (refine mj_r_pure rfl rfl ?_)
  refine mj_r_cV (ci := 9) (kc := 4 * d) (ks := 33 * d) rfl li_Law_40 ck_Top_claim iv_Top_claim (by decide) ((K_id (V_claim I (xs (i + 1)) (xs (i + 2)) _))) rfl rfl (Nat.le_of_ble_eq_true rfl) rfl ht ?_
  rintro _ h1 nx1 ⟨rfl, J1⟩ _
  iterate 5 (refine mj_r_pure rfl rfl ?_)
  refine cx_sald rfl (ix_add (x := i) (y := 1) rfl rfl) (by omega) hL31 ?_
  iterate 4 (refine mj_r_pure rfl rfl ?_)
  refine cx_sald rfl (ix_add (x := i) (y := 2) rfl rfl) (by omega) hL31 ?_
  iterate 4 (refine mj_r_pure rfl rfl ?_)
  refine cx_sald rfl (ix_add (x := i) (y := 3) rfl rfl) (by omega) hL31 ?_
  iterate 7 (refine mj_r_pure rfl rfl ?_)
  refine cx_sald rfl (ix_add (x := i) (y := 4) rfl rfl) (by omega) hL31 ?_
  iterate 4 (refine mj_r_pure rfl rfl ?_)
  refine mj_W.swap ?_
  refine mj_r_cV0 (ci := 10)  rfl li_Law_44 ck_Ref_claim iv_Ref_claim (by decide) ((K_id (K_Ref_claim S (xs (i + 1)) (xs (i + 2)) _ nx1 nc I.enc I.c40))) rfl rfl (Nat.le_of_ble_eq_true rfl) rfl rfl ?_
  rintro _ _ _ ⟨rfl, rfl, rfl⟩ _
  refine mj_W.swap ?_
  refine mj_r_icmp_eq rfl (fun c1 => ?_) (fun c1 => absurd c1 (fun q => q rfl))
  exact ih _ _ _ J1
