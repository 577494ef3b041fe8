/-! a new object of the class -/
theorem wf_O_S0 : wf_O S0 := by
  unfold wf_O wf_P
  rw [S0_1 1 (by decide), S0_1 2 (by decide), S0_1 6 (by decide), S0_1 0 (by decide), S0_1 8 (by decide)]
  exact ⟨⟨fun _ => ⟨0, by omega, rfl⟩, fun _ => ⟨0, by omega, rfl⟩, fun _ => ⟨0, by omega, rfl⟩⟩, fun _ => Or.inl (Or.inl rfl), fun _ => ⟨0, by omega, rfl⟩⟩
set_option maxRecDepth 20000 in
set_option maxHeartbeats 4000000 in
theorem K_Top_init : mj_K me_Top_init [.ref 0] (mj_so mj_0 9 0 ((mj_dl 9).getD [])) 1 20 257 (fun r h' nx' => r = none ∧ nx' = 21 ∧ inv h' S0 52 0) := by
  refine mj_K.of ok_Top_init ck_Top_init (Nat.le_of_ble_eq_true rfl) ?_
  refine mj_r_pure rfl rfl ?_
  refine mj_r_oi rfl oi_Top (by decide) (by decide) ?_
  iterate 2 (refine mj_r_pure rfl rfl ?_)
  refine mj_r_newA (N := 8) rfl rfl (by decide) (by decide) (by decide) (by decide) ?_
  refine mj_r_putf rfl rfl rfl rfl (Or.inr ⟨rfl, rfl, rfl⟩) rfl rfl ?_
  iterate 2 (refine mj_r_pure rfl rfl ?_)
  refine mj_r_putf rfl rfl rfl rfl (Or.inl rfl) rfl rfl ?_
  refine mj_r_pure rfl rfl ?_
  refine mj_r_new (N := 2) rfl rfl rfl rfl ?_
  refine mj_r_pure rfl rfl ?_
  refine mj_r_callIN (kc := 17) (ks := 223) rfl li_Top_21 ck_Program_init iv_Program_init rfl rfl (by decide) ((K_Program_init (mj_so _ 8 2 _) 2 3 .null 0 so_self)) rfl rfl (Nat.le_of_ble_eq_true rfl) ?_
  rintro _ h1 _ ⟨rfl, e1, rfl⟩ _
  have t26 : h1.1 9 0 = some [.ref 1, .int 0, .null, .null, .null, .null] := by rw [e1]; rfl
  have u1 : h1.2.2.2 0 1 = some (8, fun _ => none) := by rw [e1]; rfl
  have u2 : h1.1 8 2 = some (oPrg 3 0) := by rw [e1]; rfl
  have u3 : h1.2.2.2 4 3 = some (24, fun _ => none) := by rw [e1]; rfl
  clear e1
  refine mj_r_putf rfl rfl t26 rfl (Or.inl rfl) rfl rfl ?_
  refine mj_r_pure rfl rfl ?_
  refine mj_r_new (N := 4) rfl rfl rfl rfl ?_
  refine mj_r_pure rfl rfl ?_
  refine mj_r_callIN (kc := 14) (ks := 171) rfl li_Top_28 ck_Machine_init iv_Machine_init rfl rfl (by decide) ((K_Machine_init (mj_so (mj_so h1 9 0 _) 5 4 _) so_self)) rfl rfl (Nat.le_of_ble_eq_true rfl) ?_
  rintro _ h2 _ ⟨rfl, rfl, f2, i2⟩ _
  have t37 : h2.1 9 0 = some [.ref 1, .int 0, .ref 2, .null, .null, .null] := by rw [f2.1 9 (by decide)]; rfl
  refine mj_r_putf rfl rfl t37 rfl (Or.inr ⟨rfl, rfl, rfl⟩) rfl rfl ?_
  refine mj_r_pure rfl rfl ?_
  refine mj_r_new (N := 4) rfl rfl rfl rfl ?_
  refine mj_r_pure rfl rfl ?_
  refine mj_r_callI (kc := 4) (ks := 135) rfl li_Top_35 ck_Paper_init iv_Paper_init rfl rfl (by decide) ((K_Paper_init (mj_so (mj_so h2 9 0 _) 7 7 _) so_self)) rfl rfl (Nat.le_of_ble_eq_true rfl) ?_
  rintro _ h3 _ ⟨rfl, rfl, f3, i3⟩ _
  have t48 : h3.1 9 0 = some [.ref 1, .int 0, .ref 2, .ref 4, .null, .null] := by rw [f3.1 9 (by decide) (by decide)]; rfl
  refine mj_r_putf rfl rfl t48 rfl (Or.inr ⟨rfl, rfl, rfl⟩) rfl rfl ?_
  refine mj_r_pure rfl rfl ?_
  refine mj_r_new (N := 7) rfl rfl rfl rfl ?_
  refine mj_r_pure rfl rfl ?_
  refine mj_r_callI (kc := 0) (ks := 0) rfl li_Top_42 ck_Court_init iv_Court_init rfl rfl (by decide) ((K_Court_init (mj_so (mj_so h3 9 0 _) 2 17 _) so_self)) rfl rfl (Nat.le_of_ble_eq_true rfl) ?_
  rintro _ h4 _ ⟨rfl, rfl, f4, i4⟩ _
  have t59 : h4.1 9 0 = some [.ref 1, .int 0, .ref 2, .ref 4, .ref 7, .null] := by rw [f4.1 9 (by decide) (by decide) (by decide)]; rfl
  refine mj_r_putf rfl rfl t59 rfl (Or.inr ⟨rfl, rfl, rfl⟩) rfl rfl ?_
  refine mj_r_ret rfl rfl ⟨rfl, rfl, 0, 0, 0, 0, 0, by omega, ⟨by omega, by rw [S0_1 5 (by decide)]; rfl, by rw [S0_1 4 (by decide)]; rfl, 2, 3, fun _ => none, rfl, ?_, ⟨by omega, ?_, by omega, by omega, ?_, fun _ => none, ?_, fun j hj => absurd hj (by omega)⟩, fun b hb => absurd hb (by omega)⟩, wf_O_S0, ?_, ?_, ?_, ⟨fun c hc => absurd hc (by omega), fun c hc => absurd hc (by omega)⟩⟩
  · show h4.2.2.2 0 1 = _
    rw [f4.2.2.2 0 (by decide) (by decide)]
    show h3.2.2.2 0 1 = _
    rw [f3.2.2.2 0 (by decide)]
    show h2.2.2.2 0 1 = _
    rw [f2.2.2.2]
    exact u1
  · show S0.1 4 0 = nI 0
    rw [S0_1 4 (by decide)]
    rfl
  · show h4.1 8 2 = _
    rw [f4.1 8 (by decide) (by decide) (by decide)]
    show h3.1 8 2 = _
    rw [f3.1 8 (by decide) (by decide)]
    show h2.1 8 2 = _
    rw [f2.1 8 (by decide)]
    exact u2
  · show h4.2.2.2 4 3 = _
    rw [f4.2.2.2 4 (by decide) (by decide)]
    show h3.2.2.2 4 3 = _
    rw [f3.2.2.2 4 (by decide)]
    show h2.2.2.2 4 3 = _
    rw [f2.2.2.2]
    exact u3
  · refine iM.fr (h := h2) i2 ?_ ?_ ?_
    · show h4.1 5 = _
      rw [f4.1 5 (by decide) (by decide) (by decide)]
      show h3.1 5 = _
      rw [f3.1 5 (by decide) (by decide)]
      rfl
    · show h4.2.1 5 = _
      rw [f4.2.1 5 (by decide)]
      show h3.2.1 5 = _
      rw [f3.2.1]
      rfl
    · show h4.2.2.1 6 = _
      rw [f4.2.2.1]
      show h3.2.2.1 6 = _
      rw [f3.2.2.1]
      rfl
  · refine iPa.fr (h := h3) i3 ?_ ?_ ?_ (fun i _ => ?_) (agP.rf S0)
    · show h4.1 6 = _
      rw [f4.1 6 (by decide) (by decide) (by decide)]
      rfl
    · show h4.1 7 = _
      rw [f4.1 7 (by decide) (by decide) (by decide)]
      rfl
    · show h4.2.2.2 6 = _
      rw [f4.2.2.2 6 (by decide) (by decide)]
      rfl
    · show h4.2.2.1 _ = _
      rw [f4.2.2.1]
      rfl
  · exact i4
