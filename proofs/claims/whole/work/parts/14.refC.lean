/-! the reference's machine: contracts -/
/-- the programs are programs -/
def wf_P (S : rf_S) : Prop := (∀ k, ∃ a, a < 16 ∧ S.1 1 k = nI a) ∧ (∀ k, ∃ b, b < 16 ∧ S.1 2 k = nI b) ∧ ∀ b, ∃ n, n ≤ 24 ∧ S.1 6 b = nI n
theorem wf_P.ok {S : rf_S} (h : wf_P S) (b : Nat) : m_ok (sp_P S b) := ⟨fun k => h.1 _, fun k => h.2.1 _⟩
theorem isN_nat {x : Int32} {n : Nat} (hn : n < 2 ^ 31) (h : isN x (nI n)) : ∃ j : Nat, j < n ∧ x = nI j := by
  rcases pk_ix x (n := n) hn with q | q | q
  · exact absurd h (lt0_nle q _)
  · exact absurd h (ge_nlt q)
  · exact q
theorem nat_isN {j n : Nat} (h : j < n) (hn : n < 2 ^ 31) : isN (nI j) (nI n) := ⟨nI_pos' (by omega), nI_lt h hn⟩
theorem m1_neg : ¬ (0 : Int32) ≤ -1 := by decide +kernel
theorem m_wr_c {P : mP} (hP : m_ok P) (f : Nat → Int32) (k : Nat) : m_wr P f k = -1 ∨ ∃ w : Nat, w < 16 ∧ m_wr P f k = nI w := by
  unfold m_wr
  by_cases c1 : P.1 k = 9
  · rw [if_pos c1]; exact Or.inl rfl
  · rw [if_neg c1]
    by_cases c2 : P.1 k = 8
    · rw [if_pos c2]; exact Or.inr (sp_m15 _)
    · rw [if_neg c2]; exact Or.inr (hP.1 k)
set_option maxRecDepth 20000 in
set_option maxHeartbeats 4000000 in
theorem K_Ref_step_open (hrot : ∀ a c : Int32, sp_rotR a c = sp_rot a c) (S : rf_S) (b nx : Nat) (hS : wf_P S) (hb : b < 8) : rK me_Ref_step [.int (nI b)] S nx none (sM S (m_step (sp_P S b) (sp_m S))) := by
  refine mj_K.of ok_Ref_step ck_Ref_step (Nat.le_of_ble_eq_true rfl) ?_
  obtain ⟨ln, hln, hln2⟩ := hS.2.2 b
  by_cases c : isN (S.1 10 0) (S.1 6 b)
  · obtain ⟨j, hj, hj2⟩ := isN_nat (n := ln) (by omega) (by rw [← hln2]; exact c)
    have eat : sp_at S b (S.1 10 0) = nI (24 * b + j) := by rw [sp_at, if_pos c, hj2, nI_add]
    obtain ⟨a0, ha, ha2⟩ := hS.1 (24 * b + j)
    obtain ⟨b0, hb3, hb2⟩ := hS.2.1 (24 * b + j)
    have hkj : 24 * b + j < 216 := by omega
    have ems : m_step (sp_P S b) (sp_m S) = (m_cell (sp_P S b) (S.1 9) j, m_bh (sp_P S b) (S.1 9) j (S.1 10 0), S.1 11 0 + 1) := by
      refine (if_pos (show isN (sp_m S).2.1 (sp_P S b).2.2.2.2 from c)).trans ?_
      show (m_cell (sp_P S b) (S.1 9) (S.1 10 0).toNatClampNeg, m_bh (sp_P S b) (S.1 9) (S.1 10 0).toNatClampNeg (S.1 10 0), S.1 11 0 + 1) = _
      rw [hj2, nI_clamp (by omega)]
    rw [ems]
    have ew : sp_written S (24 * b + j) = m_wr (sp_P S b) (S.1 9) j := rfl
    have ev : sp_valueOf S (24 * b + j) = m_val (sp_P S b) (S.1 9) j := rfl
    have eb : sp_behind S (24 * b + j) (S.1 10 0) = m_bh (sp_P S b) (S.1 9) j (S.1 10 0) := rfl
    generalize hS1 : sI S 11 (S.1 11 0 + 1) = S1
    rcases m_wr_c (hS.ok b) (S.1 9) j with hw | ⟨w, hw, hw2⟩
    · iterate 3 (refine mj_r_pure rfl rfl ?_)
      refine rr_get rfl rfl rfl ?_
      refine mj_r_callV (ci := 10) (kc := 0) (ks := 0) rfl li_Ref_117 ck_Ref_at iv_Ref_at (by decide) rfl rfl (K_Ref_at S b (S.1 10 0) nx hb) rfl rfl (Nat.le_of_ble_eq_true rfl) ?_
      rintro _ _ _ ⟨rfl, rfl, rfl⟩ _
      rw [eat]
      iterate 2 (refine mj_r_pure rfl rfl ?_)
      refine mj_r_if_ge rfl (fun c1 => ?_) (fun c1 => absurd c1 (fun q => q (nI_pos' (by omega))))
      iterate 2 (refine mj_r_pure rfl rfl ?_)
      refine rr_get rfl rfl rfl ?_
      iterate 2 (refine mj_r_pure rfl rfl ?_)
      refine rr_putI rfl rfl (by decide) ?_
      rw [hS1]
      iterate 2 (refine mj_r_pure rfl rfl ?_)
      refine mj_r_callV (ci := 10) (kc := 0) (ks := 0) rfl li_Ref_124 ck_Ref_written iv_Ref_written (by decide) rfl rfl (K_Ref_written S1 (24 * b + j) a0 nx hkj (by rw [← hS1]; exact ha2) ha) rfl rfl (Nat.le_of_ble_eq_true rfl) ?_
      rintro _ _ _ ⟨rfl, rfl, rfl⟩ _
      iterate 3 (refine mj_r_pure rfl rfl ?_)
      refine mj_r_callV (ci := 10) (kc := 0) (ks := 0) rfl li_Ref_128 ck_Ref_valueOf iv_Ref_valueOf (by decide) rfl rfl ((K_Ref_valueOf_open hrot S1 (24 * b + j) a0 b0 nx hkj (by rw [← hS1]; exact ha2) ha (by rw [← hS1]; exact hb2) hb3)) rfl rfl (Nat.le_of_ble_eq_true rfl) ?_
      rintro _ _ _ ⟨rfl, rfl, rfl⟩ _
      iterate 4 (refine mj_r_pure rfl rfl ?_)
      refine rr_get rfl rfl rfl ?_
      refine mj_r_callV (ci := 10) (kc := 0) (ks := 0) rfl li_Ref_131 ck_Ref_placeBehind iv_Ref_placeBehind (by decide) rfl rfl (K_Ref_placeBehind S1 (24 * b + j) a0 nx _ hkj (by rw [← hS1]; exact ha2) ha) rfl rfl (Nat.le_of_ble_eq_true rfl) ?_
      rintro _ _ _ ⟨rfl, rfl, rfl⟩ _
      refine mj_r_pure rfl rfl ?_
      subst hS1
      refine mj_r_pure rfl rfl ?_
      show mj_W _ _ _ (.int (sp_written S (24 * b + j)) :: []) _ _ _ _ _ _
      rw [ew, hw]
      refine mj_r_if_lt rfl (fun c2 => ?_) (fun c2 => absurd c2 (by decide +kernel))
      iterate 2 (refine mj_r_pure rfl rfl ?_)
      refine rr_putI rfl rfl (by decide) ?_
      exact mj_r_ret rfl rfl ⟨rfl, by unfold sM; rw [show m_cell (sp_P S b) (S.1 9) j = S.1 9 by rw [m_cell, hw, if_neg m1_neg]]; exact congrArg rf_h (by rw [sC_self]; show sI (sI S 11 _) 10 _ = _; rw [sI_sC, sI_sC, sC_comm S (p := 11) (p' := 10) rfl]; rfl), rfl⟩
    · iterate 3 (refine mj_r_pure rfl rfl ?_)
      refine rr_get rfl rfl rfl ?_
      refine mj_r_callV (ci := 10) (kc := 0) (ks := 0) rfl li_Ref_117 ck_Ref_at iv_Ref_at (by decide) rfl rfl (K_Ref_at S b (S.1 10 0) nx hb) rfl rfl (Nat.le_of_ble_eq_true rfl) ?_
      rintro _ _ _ ⟨rfl, rfl, rfl⟩ _
      rw [eat]
      iterate 2 (refine mj_r_pure rfl rfl ?_)
      refine mj_r_if_ge rfl (fun c1 => ?_) (fun c1 => absurd c1 (fun q => q (nI_pos' (by omega))))
      iterate 2 (refine mj_r_pure rfl rfl ?_)
      refine rr_get rfl rfl rfl ?_
      iterate 2 (refine mj_r_pure rfl rfl ?_)
      refine rr_putI rfl rfl (by decide) ?_
      rw [hS1]
      iterate 2 (refine mj_r_pure rfl rfl ?_)
      refine mj_r_callV (ci := 10) (kc := 0) (ks := 0) rfl li_Ref_124 ck_Ref_written iv_Ref_written (by decide) rfl rfl (K_Ref_written S1 (24 * b + j) a0 nx hkj (by rw [← hS1]; exact ha2) ha) rfl rfl (Nat.le_of_ble_eq_true rfl) ?_
      rintro _ _ _ ⟨rfl, rfl, rfl⟩ _
      iterate 3 (refine mj_r_pure rfl rfl ?_)
      refine mj_r_callV (ci := 10) (kc := 0) (ks := 0) rfl li_Ref_128 ck_Ref_valueOf iv_Ref_valueOf (by decide) rfl rfl ((K_Ref_valueOf_open hrot S1 (24 * b + j) a0 b0 nx hkj (by rw [← hS1]; exact ha2) ha (by rw [← hS1]; exact hb2) hb3)) rfl rfl (Nat.le_of_ble_eq_true rfl) ?_
      rintro _ _ _ ⟨rfl, rfl, rfl⟩ _
      iterate 4 (refine mj_r_pure rfl rfl ?_)
      refine rr_get rfl rfl rfl ?_
      refine mj_r_callV (ci := 10) (kc := 0) (ks := 0) rfl li_Ref_131 ck_Ref_placeBehind iv_Ref_placeBehind (by decide) rfl rfl (K_Ref_placeBehind S1 (24 * b + j) a0 nx _ hkj (by rw [← hS1]; exact ha2) ha) rfl rfl (Nat.le_of_ble_eq_true rfl) ?_
      rintro _ _ _ ⟨rfl, rfl, rfl⟩ _
      refine mj_r_pure rfl rfl ?_
      subst hS1
      refine mj_r_pure rfl rfl ?_
      show mj_W _ _ _ (.int (sp_written S (24 * b + j)) :: []) _ _ _ _ _ _
      rw [ew, hw2]
      refine mj_r_if_lt rfl (fun c2 => absurd c2 (nI_pos (by omega))) (fun c2 => ?_)
      refine mj_r_pure rfl rfl ?_
      refine rr_get rfl rfl rfl ?_
      iterate 2 (refine mj_r_pure rfl rfl ?_)
      refine rx_iast rfl rfl (show sp_written S (24 * b + j) = nI w by rw [ew, hw2]) hw ?_
      iterate 2 (refine mj_r_pure rfl rfl ?_)
      refine rr_putI rfl rfl (by decide) ?_
      exact mj_r_ret rfl rfl ⟨rfl, by unfold sM; rw [show m_cell (sp_P S b) (S.1 9) j = upd (S.1 9) w (m_val (sp_P S b) (S.1 9) j) by rw [m_cell, hw2, if_pos (nI_pos' (by omega)), nI_clamp (by omega)]]; exact congrArg rf_h (by show sI (sA (sI S 11 _) 9 w _) 10 _ = _; rw [sI_sC, sI_sC, sA_sC, sC_comm S (p := 11) (p' := 9) rfl, sC_comm (sC S 9 _) (p := 11) (p' := 10) rfl]; rfl), rfl⟩
  · have eat : sp_at S b (S.1 10 0) = -1 := by rw [sp_at, if_neg c]
    have ems : m_step (sp_P S b) (sp_m S) = sp_m S := if_neg (show ¬ isN (sp_m S).2.1 (sp_P S b).2.2.2.2 from c)
    rw [ems]
    iterate 3 (refine mj_r_pure rfl rfl ?_)
    refine rr_get rfl rfl rfl ?_
    refine mj_r_callV (ci := 10) (kc := 0) (ks := 0) rfl li_Ref_117 ck_Ref_at iv_Ref_at (by decide) rfl rfl (K_Ref_at S b (S.1 10 0) nx hb) rfl rfl (Nat.le_of_ble_eq_true rfl) ?_
    rintro _ _ _ ⟨rfl, rfl, rfl⟩ _
    rw [eat]
    iterate 2 (refine mj_r_pure rfl rfl ?_)
    refine mj_r_if_ge rfl (fun c1 => absurd c1 (m1_neg)) (fun c1 => ?_)
    exact mj_r_ret rfl rfl ⟨rfl, rf_sM.symm, rfl⟩
