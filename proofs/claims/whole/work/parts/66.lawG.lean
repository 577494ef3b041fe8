/-! the law: its calls, on -/
set_option maxRecDepth 20000 in
set_option maxHeartbeats 4000000 in
theorem lw_c18 {L : Nat} {xs : Nat → Int32} {i d T nx : Nat} {h : mj_H} {S : rf_S} (hL31 : L < 2 ^ 31) (hi : i + 10 < L) (hT : T + 200 < 2 ^ 28) (J : inv h S nx T) (ih : lw_N L xs d i (T + 200)) : mj_W me_law 1119 (lw_v i) [] h (rf_h S) nx (4 * (d + 1)) (33 * (d + 1)) (lw_q L xs) := by
  obtain ⟨nb, dr, n, nc, nd, I⟩ := J
  obtain ⟨pa, ht⟩ := I.top
  unfold lw_v lw_q lw_N at *
  refine mj_W.le (kc' := 4 * d + 0) (ks' := 33 * d + 0) (by omega) (by omega) ?_
  iterate 5 (refine mj_r_pure rfl rfl ?_)
  refine cx_sald rfl (ix_add (x := i) (y := 1) rfl rfl) (by omega) hL31 ?_
  refine mj_r_cV (ci := 9) (kc := 4 * d) (ks := 33 * d) rfl li_Law_98 ck_Top_purse iv_Top_purse (by decide) ((K_id (V_purse I (xs (i + 1))))) rfl rfl (Nat.le_of_ble_eq_true rfl) rfl ht ?_
  rintro _ h1 nx1 ⟨rfl, J1⟩ _
  iterate 5 (refine mj_r_pure rfl rfl ?_)
  refine cx_sald rfl (ix_add (x := i) (y := 1) rfl rfl) (by omega) hL31 ?_
  refine mj_W.swap ?_
  refine mj_r_cV0 (ci := 10)  rfl li_Law_101 ck_Ref_purse iv_Ref_purse (by decide) ((K_id (K_Ref_purse S (xs (i + 1)) nx1))) rfl rfl (Nat.le_of_ble_eq_true rfl) rfl rfl ?_
  rintro _ _ _ ⟨rfl, rfl, rfl⟩ _
  refine mj_W.swap ?_
  refine mj_r_icmp_eq rfl (fun c1 => ?_) (fun c1 => absurd c1 (fun q => q rfl))
  exact ih _ _ _ J1
set_option maxRecDepth 20000 in
set_option maxHeartbeats 4000000 in
theorem lw_c19 {L : Nat} {xs : Nat → Int32} {i d T nx : Nat} {h : mj_H} {S : rf_S} (hL31 : L < 2 ^ 31) (hi : i + 10 < L) (hT : T + 200 < 2 ^ 28) (J : inv h S nx T) (ih : lw_N L xs d i (T + 200)) : mj_W me_law 1142 (lw_v i) [] h (rf_h S) nx (4 * (d + 1)) (33 * (d + 1)) (lw_q L xs) := by
  obtain ⟨nb, dr, n, nc, nd, I⟩ := J
  obtain ⟨pa, ht⟩ := I.top
  unfold lw_v lw_q lw_N at *
  refine mj_W.le (kc' := 4 * d + 0) (ks' := 33 * d + 0) (by omega) (by omega) ?_
  refine mj_r_pure rfl rfl ?_
  refine mj_r_cV (ci := 9) (kc := 4 * d) (ks := 33 * d) rfl li_Law_102 ck_Top_sum iv_Top_sum (by decide) ((K_id (V_sum I))) rfl rfl (Nat.le_of_ble_eq_true rfl) rfl ht ?_
  rintro _ h1 nx1 ⟨rfl, J1⟩ _
  refine mj_r_pure rfl rfl ?_
  refine mj_W.swap ?_
  refine mj_r_cV0 (ci := 10)  rfl li_Law_106 ck_Ref_sum iv_Ref_sum (by decide) ((K_id (K_Ref_sum S nx1 nc nd I.enc I.c40 I.end_ I.d80))) rfl rfl (Nat.le_of_ble_eq_true rfl) rfl rfl ?_
  rintro _ _ _ ⟨rfl, rfl, rfl⟩ _
  refine mj_W.swap ?_
  refine mj_r_icmp_eq rfl (fun c1 => ?_) (fun c1 => absurd c1 (fun q => q rfl))
  exact ih _ _ _ J1
set_option maxRecDepth 20000 in
set_option maxHeartbeats 4000000 in
theorem lw_c20 {L : Nat} {xs : Nat → Int32} {i d T nx : Nat} {h : mj_H} {S : rf_S} (hL31 : L < 2 ^ 31) (hi : i + 10 < L) (hT : T + 200 < 2 ^ 28) (J : inv h S nx T) (ih : lw_N L xs d i (T + 200)) : mj_W me_law 1155 (lw_v i) [] h (rf_h S) nx (4 * (d + 1)) (33 * (d + 1)) (lw_q L xs) := by
  obtain ⟨nb, dr, n, nc, nd, I⟩ := J
  obtain ⟨pa, ht⟩ := I.top
  unfold lw_v lw_q lw_N at *
  refine mj_W.le (kc' := 4 * d + 0) (ks' := 33 * d + 0) (by omega) (by omega) ?_
  refine mj_r_pure rfl rfl ?_
  refine mj_r_cV (ci := 9) (kc := 4 * d) (ks := 33 * d) rfl li_Law_107 ck_Top_clear iv_Top_clear (by decide) ((K_id (V_clear I))) rfl rfl (Nat.le_of_ble_eq_true rfl) rfl ht ?_
  rintro _ h1 nx1 ⟨rfl, J1⟩ _
  refine mj_r_pure rfl rfl ?_
  refine mj_W.swap ?_
  refine mj_r_cV0 (ci := 10)  rfl li_Law_110 ck_Ref_clear iv_Ref_clear (by decide) ((K_id (K_Ref_clear S nx1))) rfl rfl (Nat.le_of_ble_eq_true rfl) rfl rfl ?_
  rintro _ _ _ ⟨rfl, rfl, rfl⟩ _
  refine mj_W.swap ?_
  refine mj_r_icmp_eq rfl (fun c1 => ?_) (fun c1 => absurd c1 (fun q => q rfl))
  exact ih _ _ _ J1
