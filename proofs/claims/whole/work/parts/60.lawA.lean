/-! THE LAW: its calls -/
theorem K_id {p : Prop} (h : p) : p := h
section LWS
variable {M : mj_M} {Q : Option Value → mj_H → mj_H → Nat → Prop} {pc n : Nat} {x : Value} {lv : List (Nat × Value)} {r : List Value} {h g : mj_H} {nx kc ks : Nat} {L : Nat} {xs : Nat → Int32}
theorem cx_sald {i : Int32} {j y : Nat} (hd : mj_find (mj_tab M) pc = some (.iaload, 1, x, n)) (he : i = nI j) (hl : j < L) (hL : L < 2 ^ 31) (kk : mj_W M n lv (.int (xs j) :: r) h g nx kc ks (mj_scr L xs, Q)) : mj_W M pc lv (.int i :: .retAddr y :: r) h g nx kc ks (mj_scr L xs, Q) := by
  subst he
  exact mj_r_sald hd (vp_in_nI hl hL) (nI_clamp (by omega)) kk
end LWS
def lw_v (i : Nat) : List (Nat × Value) := [(0, .retAddr 0), (1, .ref 0), (2, .ref 21), (3, .int (nI i))]
def lw_q (L : Nat) (xs : Nat → Int32) : mj_post := (mj_scr L xs, fun r _ _ _ => r = some (.int 1))
/-- behind a call -/
def lw_N (L : Nat) (xs : Nat → Int32) (d i T : Nat) : Prop := ∀ (h : mj_H) (S : rf_S) (nx : Nat), inv h S nx T → mj_W me_law 1168 (lw_v i) [] h (rf_h S) nx (4 * d) (33 * d) (lw_q L xs)
section IXP
variable {h : mj_H} {S : rf_S} {nx T nb dr n nc nd : Nat}
theorem invX.enb (I : invX h S nx T nb dr n nc nd) : S.1 5 0 = nI nb := I.2.1.2.1
theorem invX.b8 (I : invX h S nx T nb dr n nc nd) : nb ≤ 8 := I.2.1.1
theorem invX.edr (I : invX h S nx T nb dr n nc nd) : S.1 4 0 = nI dr := I.2.1.2.2.1
theorem invX.d24 (I : invX h S nx T nb dr n nc nd) : dr ≤ 24 := by
  obtain ⟨h8, hnb, hdr, pa, la, fb, ht, hfb, hd, -⟩ := I.2.1
  exact hd.1
theorem invX.wP (I : invX h S nx T nb dr n nc nd) : wf_P S := I.2.2.1.1
theorem invX.wQ (I : invX h S nx T nb dr n nc nd) : wf_Q S n := I.2.2.2.2.1.1
theorem invX.wD (I : invX h S nx T nb dr n nc nd) : wf_D S nc nd := by
  obtain ⟨od, to, md, oc, fc, fd, R, P⟩ := I.2.2.2.2.2.1
  exact P.1.1
theorem invX.enc (I : invX h S nx T nb dr n nc nd) : S.1 15 0 = nI nc := I.wD.2.2.1
theorem invX.c40 (I : invX h S nx T nb dr n nc nd) : nc ≤ 40 := I.wD.2.2.2.1
theorem invX.end_ (I : invX h S nx T nb dr n nc nd) : S.1 21 0 = nI nd := I.wD.1
theorem invX.d80 (I : invX h S nx T nb dr n nc nd) : nd ≤ 80 := I.wD.2.1
theorem invX.cb (I : invX h S nx T nb dr n nc nd) : ∀ c, c < nc → ∃ b, b < nb ∧ S.1 17 c = nI b := I.2.2.2.2.2.2.2
theorem invX.st (I : invX h S nx T nb dr n nc nd) : ∀ b, b < nb → 0 ≤ S.1 8 b := fun b _ => by
  obtain ⟨m, m1, m2⟩ := I.2.2.1.2.2 b
  rw [m2]
  exact nI_pos' (by omega)
end IXP
set_option maxRecDepth 20000 in
set_option maxHeartbeats 4000000 in
theorem lw_c0 {L : Nat} {xs : Nat → Int32} {i d T nx : Nat} {h : mj_H} {S : rf_S} (hL31 : L < 2 ^ 31) (hi : i + 10 < L) (hT : T + 200 < 2 ^ 28) (J : inv h S nx T) (ih : lw_N L xs d i (T + 200)) : mj_W me_law 132 (lw_v i) [] h (rf_h S) nx (4 * (d + 1)) (33 * (d + 1)) (lw_q L xs) := by
  obtain ⟨nb, dr, n, nc, nd, I⟩ := J
  obtain ⟨pa, ht⟩ := I.top
  unfold lw_v lw_q lw_N at *
  refine mj_W.le (kc' := 4 * d + 1) (ks' := 33 * d + 4) (by omega) (by omega) ?_
  iterate 5 (refine mj_r_pure rfl rfl ?_)
  refine cx_sald rfl (ix_add (x := i) (y := 1) rfl rfl) (by omega) hL31 ?_
  iterate 4 (refine mj_r_pure rfl rfl ?_)
  refine cx_sald rfl (ix_add (x := i) (y := 2) rfl rfl) (by omega) hL31 ?_
  iterate 4 (refine mj_r_pure rfl rfl ?_)
  refine cx_sald rfl (ix_add (x := i) (y := 3) rfl rfl) (by omega) hL31 ?_
  iterate 4 (refine mj_r_pure rfl rfl ?_)
  refine cx_sald rfl (ix_add (x := i) (y := 4) rfl rfl) (by omega) hL31 ?_
  refine mj_r_cV (ci := 9) (kc := 4 * d) (ks := 33 * d) rfl li_Law_13 ck_Top_instruction iv_Top_instruction (by decide) ((K_id (V_instruction I (xs (i + 1)) (xs (i + 2)) (xs (i + 3)) (xs (i + 4))))) rfl rfl (Nat.le_of_ble_eq_true rfl) rfl ht ?_
  rintro _ h1 nx1 ⟨rfl, J1⟩ _
  iterate 5 (refine mj_r_pure rfl rfl ?_)
  refine cx_sald rfl (ix_add (x := i) (y := 1) rfl rfl) (by omega) hL31 ?_
  iterate 4 (refine mj_r_pure rfl rfl ?_)
  refine cx_sald rfl (ix_add (x := i) (y := 2) rfl rfl) (by omega) hL31 ?_
  iterate 4 (refine mj_r_pure rfl rfl ?_)
  refine cx_sald rfl (ix_add (x := i) (y := 3) rfl rfl) (by omega) hL31 ?_
  iterate 4 (refine mj_r_pure rfl rfl ?_)
  refine cx_sald rfl (ix_add (x := i) (y := 4) rfl rfl) (by omega) hL31 ?_
  refine mj_W.swap ?_
  refine mj_r_cV0 (ci := 10)  rfl li_Law_17 ck_Ref_instruction iv_Ref_instruction (by decide) ((K_id (K_Ref_instruction S (xs (i + 1)) (xs (i + 2)) (xs (i + 3)) (xs (i + 4)) nx1 dr I.edr I.d24))) rfl rfl (Nat.le_of_ble_eq_true rfl) rfl rfl ?_
  rintro _ _ _ ⟨rfl, rfl, rfl⟩ _
  refine mj_W.swap ?_
  refine mj_r_icmp_eq rfl (fun c1 => ?_) (fun c1 => absurd c1 (fun q => q rfl))
  exact ih _ _ _ J1
set_option maxRecDepth 20000 in
set_option maxHeartbeats 4000000 in
theorem lw_c1 {L : Nat} {xs : Nat → Int32} {i d T nx : Nat} {h : mj_H} {S : rf_S} (hL31 : L < 2 ^ 31) (hi : i + 10 < L) (hT : T + 200 < 2 ^ 28) (J : inv h S nx T) (ih : lw_N L xs d i (T + 200)) : mj_W me_law 185 (lw_v i) [] h (rf_h S) nx (4 * (d + 1)) (33 * (d + 1)) (lw_q L xs) := by
  obtain ⟨nb, dr, n, nc, nd, I⟩ := J
  obtain ⟨pa, ht⟩ := I.top
  unfold lw_v lw_q lw_N at *
  refine mj_W.le (kc' := 4 * d + 4) (ks' := 33 * d + 33) (by omega) (by omega) ?_
  iterate 5 (refine mj_r_pure rfl rfl ?_)
  refine cx_sald rfl (ix_add (x := i) (y := 1) rfl rfl) (by omega) hL31 ?_
  iterate 4 (refine mj_r_pure rfl rfl ?_)
  refine cx_sald rfl (ix_add (x := i) (y := 2) rfl rfl) (by omega) hL31 ?_
  iterate 4 (refine mj_r_pure rfl rfl ?_)
  refine cx_sald rfl (ix_add (x := i) (y := 3) rfl rfl) (by omega) hL31 ?_
  iterate 4 (refine mj_r_pure rfl rfl ?_)
  refine cx_sald rfl (ix_add (x := i) (y := 4) rfl rfl) (by omega) hL31 ?_
  iterate 4 (refine mj_r_pure rfl rfl ?_)
  refine cx_sald rfl (ix_add (x := i) (y := 5) rfl rfl) (by omega) hL31 ?_
  refine mj_r_cV (ci := 9) (kc := 4 * d) (ks := 33 * d) rfl li_Law_18 ck_Top_batch iv_Top_batch (by decide) ((K_id (V_batch I (xs (i + 1)) (xs (i + 2)) (xs (i + 3)) (xs (i + 4)) (xs (i + 5))))) rfl rfl (Nat.le_of_ble_eq_true rfl) rfl ht ?_
  rintro _ h1 nx1 ⟨rfl, J1⟩ _
  iterate 5 (refine mj_r_pure rfl rfl ?_)
  refine cx_sald rfl (ix_add (x := i) (y := 1) rfl rfl) (by omega) hL31 ?_
  iterate 4 (refine mj_r_pure rfl rfl ?_)
  refine cx_sald rfl (ix_add (x := i) (y := 2) rfl rfl) (by omega) hL31 ?_
  iterate 4 (refine mj_r_pure rfl rfl ?_)
  refine cx_sald rfl (ix_add (x := i) (y := 3) rfl rfl) (by omega) hL31 ?_
  iterate 4 (refine mj_r_pure rfl rfl ?_)
  refine cx_sald rfl (ix_add (x := i) (y := 4) rfl rfl) (by omega) hL31 ?_
  iterate 4 (refine mj_r_pure rfl rfl ?_)
  refine cx_sald rfl (ix_add (x := i) (y := 5) rfl rfl) (by omega) hL31 ?_
  refine mj_W.swap ?_
  refine mj_r_cV0 (ci := 10)  rfl li_Law_22 ck_Ref_batch iv_Ref_batch (by decide) ((K_id (K_Ref_batch S (xs (i + 1)) (xs (i + 2)) (xs (i + 3)) (xs (i + 4)) (xs (i + 5)) nx1 dr nb I.edr I.d24 I.enb I.b8))) rfl rfl (Nat.le_of_ble_eq_true rfl) rfl rfl ?_
  rintro _ _ _ ⟨rfl, rfl, rfl⟩ _
  refine mj_W.swap ?_
  refine mj_r_icmp_eq rfl (fun c1 => ?_) (fun c1 => absurd c1 (fun q => q rfl))
  exact ih _ _ _ J1
set_option maxRecDepth 20000 in
set_option maxHeartbeats 4000000 in
theorem lw_c2 {L : Nat} {xs : Nat → Int32} {i d T nx : Nat} {h : mj_H} {S : rf_S} (hL31 : L < 2 ^ 31) (hi : i + 10 < L) (hT : T + 200 < 2 ^ 28) (J : inv h S nx T) (ih : lw_N L xs d i (T + 200)) : mj_W me_law 248 (lw_v i) [] h (rf_h S) nx (4 * (d + 1)) (33 * (d + 1)) (lw_q L xs) := by
  obtain ⟨nb, dr, n, nc, nd, I⟩ := J
  obtain ⟨pa, ht⟩ := I.top
  unfold lw_v lw_q lw_N at *
  refine mj_W.le (kc' := 4 * d + 0) (ks' := 33 * d + 0) (by omega) (by omega) ?_
  iterate 5 (refine mj_r_pure rfl rfl ?_)
  refine cx_sald rfl (ix_add (x := i) (y := 1) rfl rfl) (by omega) hL31 ?_
  iterate 4 (refine mj_r_pure rfl rfl ?_)
  refine cx_sald rfl (ix_add (x := i) (y := 2) rfl rfl) (by omega) hL31 ?_
  refine mj_r_cV (ci := 9) (kc := 4 * d) (ks := 33 * d) rfl li_Law_23 ck_Top_truth iv_Top_truth (by decide) ((K_id (V_truth I (xs (i + 1)) (xs (i + 2))))) rfl rfl (Nat.le_of_ble_eq_true rfl) rfl ht ?_
  rintro _ h1 nx1 ⟨rfl, J1⟩ _
  iterate 5 (refine mj_r_pure rfl rfl ?_)
  refine cx_sald rfl (ix_add (x := i) (y := 1) rfl rfl) (by omega) hL31 ?_
  iterate 4 (refine mj_r_pure rfl rfl ?_)
  refine cx_sald rfl (ix_add (x := i) (y := 2) rfl rfl) (by omega) hL31 ?_
  refine mj_W.swap ?_
  refine mj_r_cV0 (ci := 10)  rfl li_Law_27 ck_Ref_truth iv_Ref_truth (by decide) ((K_id (K_Ref_truth_open hrot S (xs (i + 1)) (xs (i + 2)) nx1 nb I.wP I.enb I.b8))) rfl rfl (Nat.le_of_ble_eq_true rfl) rfl rfl ?_
  rintro _ _ _ ⟨rfl, rfl, m, ndf, rfl⟩ _
  refine mj_W.swap ?_
  refine mj_r_pure rfl rfl ?_
  refine mj_r_if_eq rfl (fun c1 => ?_) (fun c1 => absurd c1 (fun q => q (lg0.mpr rfl)))
  exact ih _ _ _ (J1.sX m ndf)
