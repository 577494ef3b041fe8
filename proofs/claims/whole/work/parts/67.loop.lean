/-! THE LAW: its loop -/
set_option maxRecDepth 20000 in
set_option maxHeartbeats 4000000 in
theorem lw_18 {L : Nat} {xs : Nat → Int32} {d i T : Nat} (ih : ∀ (h : mj_H) (S : rf_S) (nx : Nat), inv h S nx T → mj_W me_law 18 (lw_v (i + 11)) [] h (rf_h S) nx (4 * d) (33 * d) (lw_q L xs)) : lw_N L xs d i T := by
  intro h S nx J
  have e := ih h S nx J
  unfold lw_v at *
  rw [← nI_add] at e
  iterate 2 (refine mj_r_pure rfl rfl ?_)
  exact e
set_option maxRecDepth 20000 in
set_option maxHeartbeats 4000000 in
theorem lw_sw {L : Nat} {xs : Nat → Int32} {i d T nx : Nat} {h : mj_H} {S : rf_S} {op : Int32} (hop : ∃ k : Nat, k < 32 ∧ op = nI k) (hL31 : L < 2 ^ 31) (hi : i + 10 < L) (hT : T + 200 < 2 ^ 28) (J : inv h S nx T) (hN : lw_N L xs d i (T + 200)) : mj_W me_law 33 (lw_v i) [.int op] h (rf_h S) nx (4 * (d + 1)) (33 * (d + 1)) (lw_q L xs) := by
  obtain ⟨k, hk, rfl⟩ := hop
  have dflt : mj_W me_law 1168 (lw_v i) [] h (rf_h S) nx (4 * (d + 1)) (33 * (d + 1)) (lw_q L xs) := mj_W.le (by omega) (by omega) (hN h S nx (J.mono (by omega)))
  match k, hk with
  | 0, _ => exact mj_r_switch (t := 132) rfl (Or.inr ⟨by decide +kernel, by decide +kernel, 99, by decide +kernel, by decide +kernel⟩) (lw_c0 hL31 hi hT J hN)
  | 1, _ => exact mj_r_switch (t := 185) rfl (Or.inr ⟨by decide +kernel, by decide +kernel, 152, by decide +kernel, by decide +kernel⟩) (lw_c1 hL31 hi hT J hN)
  | 2, _ => exact mj_r_switch (t := 248) rfl (Or.inr ⟨by decide +kernel, by decide +kernel, 215, by decide +kernel, by decide +kernel⟩) (lw_c2 hL31 hi hT J hN)
  | 3, _ => exact mj_r_switch (t := 282) rfl (Or.inr ⟨by decide +kernel, by decide +kernel, 249, by decide +kernel, by decide +kernel⟩) (lw_c3 hL31 hi hT J hN)
  | 4, _ => exact mj_r_switch (t := 325) rfl (Or.inr ⟨by decide +kernel, by decide +kernel, 292, by decide +kernel, by decide +kernel⟩) (lw_c4 hL31 hi hT J hN)
  | 5, _ => exact mj_r_switch (t := 369) rfl (Or.inr ⟨by decide +kernel, by decide +kernel, 336, by decide +kernel, by decide +kernel⟩) (lw_c5 hL31 hi hT J hN)
  | 6, _ => exact mj_r_switch (t := 442) rfl (Or.inr ⟨by decide +kernel, by decide +kernel, 409, by decide +kernel, by decide +kernel⟩) (lw_c6 hL31 hi hT J hN)
  | 7, _ => exact mj_r_switch (t := 475) rfl (Or.inr ⟨by decide +kernel, by decide +kernel, 442, by decide +kernel, by decide +kernel⟩) (lw_c7 hL31 hi hT J hN)
  | 8, _ => exact mj_r_switch (t := 538) rfl (Or.inr ⟨by decide +kernel, by decide +kernel, 505, by decide +kernel, by decide +kernel⟩) (lw_c8 hL31 hi hT J hN)
  | 9, _ => exact mj_r_switch (t := 571) rfl (Or.inr ⟨by decide +kernel, by decide +kernel, 538, by decide +kernel, by decide +kernel⟩) (lw_c9 hL31 hi hT J hN)
  | 10, _ => exact mj_r_switch (t := 634) rfl (Or.inr ⟨by decide +kernel, by decide +kernel, 601, by decide +kernel, by decide +kernel⟩) (lw_c10 hL31 hi hT J hN)
  | 11, _ => exact mj_r_switch (t := 837) rfl (Or.inr ⟨by decide +kernel, by decide +kernel, 804, by decide +kernel, by decide +kernel⟩) (lw_c11 hL31 hi hT J hN)
  | 12, _ => exact mj_r_switch (t := 860) rfl (Or.inr ⟨by decide +kernel, by decide +kernel, 827, by decide +kernel, by decide +kernel⟩) (lw_c12 hL31 hi hT J hN)
  | 13, _ => exact mj_r_switch (t := 963) rfl (Or.inr ⟨by decide +kernel, by decide +kernel, 930, by decide +kernel, by decide +kernel⟩) (lw_c13 hL31 hi hT J hN)
  | 14, _ => exact mj_r_switch (t := 996) rfl (Or.inr ⟨by decide +kernel, by decide +kernel, 963, by decide +kernel, by decide +kernel⟩) (lw_c14 hL31 hi hT J hN)
  | 15, _ => exact mj_r_switch (t := 1019) rfl (Or.inr ⟨by decide +kernel, by decide +kernel, 986, by decide +kernel, by decide +kernel⟩) (lw_c15 hL31 hi hT J hN)
  | 16, _ => exact mj_r_switch (t := 1052) rfl (Or.inr ⟨by decide +kernel, by decide +kernel, 1019, by decide +kernel, by decide +kernel⟩) (lw_c16 hL31 hi hT J hN)
  | 17, _ => exact mj_r_switch (t := 1085) rfl (Or.inr ⟨by decide +kernel, by decide +kernel, 1052, by decide +kernel, by decide +kernel⟩) (lw_c17 hL31 hi hT J hN)
  | 18, _ => exact mj_r_switch (t := 1119) rfl (Or.inr ⟨by decide +kernel, by decide +kernel, 1086, by decide +kernel, by decide +kernel⟩) (lw_c18 hL31 hi hT J hN)
  | 19, _ => exact mj_r_switch (t := 1142) rfl (Or.inr ⟨by decide +kernel, by decide +kernel, 1109, by decide +kernel, by decide +kernel⟩) (lw_c19 hL31 hi hT J hN)
  | 20, _ => exact mj_r_switch (t := 1155) rfl (Or.inr ⟨by decide +kernel, by decide +kernel, 1122, by decide +kernel, by decide +kernel⟩) (lw_c20 hL31 hi hT J hN)
  | 21, _ => exact mj_r_switch (t := 1168) rfl (Or.inl ⟨by decide +kernel, by decide⟩) dflt
  | 22, _ => exact mj_r_switch (t := 1168) rfl (Or.inl ⟨by decide +kernel, by decide⟩) dflt
  | 23, _ => exact mj_r_switch (t := 1168) rfl (Or.inl ⟨by decide +kernel, by decide⟩) dflt
  | 24, _ => exact mj_r_switch (t := 1168) rfl (Or.inl ⟨by decide +kernel, by decide⟩) dflt
  | 25, _ => exact mj_r_switch (t := 1168) rfl (Or.inl ⟨by decide +kernel, by decide⟩) dflt
  | 26, _ => exact mj_r_switch (t := 1168) rfl (Or.inl ⟨by decide +kernel, by decide⟩) dflt
  | 27, _ => exact mj_r_switch (t := 1168) rfl (Or.inl ⟨by decide +kernel, by decide⟩) dflt
  | 28, _ => exact mj_r_switch (t := 1168) rfl (Or.inl ⟨by decide +kernel, by decide⟩) dflt
  | 29, _ => exact mj_r_switch (t := 1168) rfl (Or.inl ⟨by decide +kernel, by decide⟩) dflt
  | 30, _ => exact mj_r_switch (t := 1168) rfl (Or.inl ⟨by decide +kernel, by decide⟩) dflt
  | 31, _ => exact mj_r_switch (t := 1168) rfl (Or.inl ⟨by decide +kernel, by decide⟩) dflt
  | k + 32, h => exact absurd h (by omega)
set_option maxRecDepth 20000 in
set_option maxHeartbeats 4000000 in
theorem lw_loop {L : Nat} {xs : Nat → Int32} (hL : L ≤ 5632) : ∀ (d i T : Nat) (h : mj_H) (S : rf_S) (nx : Nat), i ≤ 2 ^ 20 → L < i + 11 * d + 11 → T + 200 * d < 2 ^ 28 → inv h S nx T → mj_W me_law 18 (lw_v i) [] h (rf_h S) nx (4 * d) (33 * d) (lw_q L xs) := by
  have hL31 : L < 2 ^ 31 := by omega
  have e11 : (11 : Int32) = nI 11 := rfl
  intro d
  induction d with
  | zero =>
    intro i T h S nx hi20 hd hT J
    have hc : Nat.toInt32 L - 11 < nI i := by
      rw [Int32.lt_iff_toInt_lt, nI_toInt (by omega)]
      show (nI L - nI 11).toInt < _
      rw [pk_sub_toInt (by omega) (by omega)]
      omega
    unfold lw_v lw_q
    iterate 2 (refine mj_r_pure rfl rfl ?_)
    refine mj_r_salen rfl rfl ?_
    iterate 2 (refine mj_r_pure rfl rfl ?_)
    refine mj_r_icmp_gt rfl (fun c1 => ?_) (fun c1 => absurd c1 (fun q => q hc))
    refine mj_r_pure rfl rfl ?_
    exact mj_r_iret rfl rfl rfl (rfl)
  | succ d ih =>
    intro i T h S nx hi20 hd hT J
    by_cases hlt : i + 11 ≤ L
    · have hc : ¬ Nat.toInt32 L - 11 < nI i := by
        rw [Int32.lt_iff_toInt_lt, nI_toInt (by omega)]
        show ¬ (nI L - nI 11).toInt < _
        rw [pk_sub_toInt (by omega) (by omega)]
        omega
      have hN : lw_N L xs d i (T + 200) := lw_18 (fun h' S' nx' J' => ih (i + 11) (T + 200) h' S' nx' (by omega) (by omega) (by omega) J')
      have fin := lw_sw (sp_m31 (xs i)) hL31 (by omega) (by omega) J hN
      unfold lw_v lw_q at *
      iterate 2 (refine mj_r_pure rfl rfl ?_)
      refine mj_r_salen rfl rfl ?_
      iterate 2 (refine mj_r_pure rfl rfl ?_)
      refine mj_r_icmp_gt rfl (fun c1 => absurd c1 (hc)) (fun c1 => ?_)
      iterate 2 (refine mj_r_pure rfl rfl ?_)
      refine cx_sald rfl (show nI i = nI i from rfl) (by omega) hL31 ?_
      iterate 2 (refine mj_r_pure rfl rfl ?_)
      exact fin
    · have hc : Nat.toInt32 L - 11 < nI i := by
        rw [Int32.lt_iff_toInt_lt, nI_toInt (by omega)]
        show (nI L - nI 11).toInt < _
        rw [pk_sub_toInt (by omega) (by omega)]
        omega
      unfold lw_v lw_q
      iterate 2 (refine mj_r_pure rfl rfl ?_)
      refine mj_r_salen rfl rfl ?_
      iterate 2 (refine mj_r_pure rfl rfl ?_)
      refine mj_r_icmp_gt rfl (fun c1 => ?_) (fun c1 => absurd c1 (fun q => q hc))
      refine mj_r_pure rfl rfl ?_
      exact mj_r_iret rfl rfl rfl (rfl)
set_option maxRecDepth 20000 in
set_option maxHeartbeats 4000000 in
theorem lw_all {L : Nat} {xs : Nat → Int32} (hL : L ≤ 5632) : mj_W me_law 0 [(0, .retAddr 0)] [] mj_0 mj_0 0 600000 7302250 (lw_q L xs) := by
  refine mj_W.le (kc' := 4 * 512 + 30 + 1 + 20 + 1) (ks' := 33 * 512 + 2152 + 40 + 257 + 6) (by omega) (by omega) ?_
  refine mj_r_new (N := 6) rfl rfl rfl rfl ?_
  refine mj_r_pure rfl rfl ?_
  refine mj_r_callI (kc := 4 * 512 + 30 + 1) (ks := 33 * 512 + 2152 + 40) rfl li_Law_9 ck_Top_init iv_Top_init rfl rfl (by decide) ((K_id K_Top_init)) rfl rfl (Nat.le_of_ble_eq_true rfl) ?_
  rintro _ h1 _ ⟨rfl, rfl, J⟩ _
  refine mj_r_pure rfl rfl ?_
  refine mj_W.swap ?_
  refine mj_r_new (N := 40) rfl rfl rfl rfl ?_
  refine mj_r_pure rfl rfl ?_
  refine mj_r_callI (kc := 4 * 512) (ks := 33 * 512) rfl li_Law_12 ck_Ref_init iv_Ref_init rfl rfl (by decide) ((K_id K_Ref_init)) rfl rfl (Nat.le_of_ble_eq_true rfl) ?_
  rintro _ _ _ ⟨rfl, rfl, rfl⟩ _
  refine mj_W.swap ?_
  iterate 3 (refine mj_r_pure rfl rfl ?_)
  exact mj_W.fewer [0, 1, 2, 3] rfl (lw_loop hL 512 0 0 h1 S0 52 (by omega) (by omega) (by omega) J)
