/-! the reference's walk and tree -/
def sp_vs (S : rf_S) (b s : Int32) : Prop := isN b (S.1 5 0) ∧ 0 ≤ s ∧ s ≤ S.1 8 b.toNatClampNeg
def sp_M (S : rf_S) (b n : Nat) : mS := m_run (sp_P S b) (m_0 (fun i => S.1 7 (4 * b + i))) n
section RLW
variable {Q : mj_post} {g : mj_H} {nx kc ks : Nat}
theorem sC_9 (S : rf_S) (f : Nat → Int32) (j : Nat) (v : Int32) : sA (sC S 9 f) 9 j v = sC S 9 (upd f j v) := by
  rw [sA_sC, sC_sC, sC_1]
theorem sD_12 (S : rf_S) (f : Nat → Int64) (j : Nat) (v : Int64) : sL (sD S 12 f) 12 j v = sD S 12 (vp_updL f j v) := by
  rw [sL_sD, sD_sD, sD_1]
set_option maxRecDepth 20000 in
set_option maxHeartbeats 4000000 in
theorem rl_walk1 {S : rf_S} {b n : Nat} (hb : b < 8) (k : ∀ f : Nat → Int32, (∀ j, j < 16 → f j = if j < 4 then S.1 7 (4 * b + j) else 0) → mj_W me_Ref_walk 63 [(0, .ref 21), (1, .int (nI b)), (2, .int (nI n)), (3, .int (nI 16))] [] (rf_h (sC S 9 f)) g nx kc ks Q) : ∀ (d i : Nat) (f : Nat → Int32), i + d = 16 → (∀ j, j < i → f j = if j < 4 then S.1 7 (4 * b + j) else 0) → mj_W me_Ref_walk 26 [(0, .ref 21), (1, .int (nI b)), (2, .int (nI n)), (3, .int (nI i))] [] (rf_h (sC S 9 f)) g nx kc ks Q := by
  intro d
  induction d with
  | zero =>
    intro i f hi hf
    have e : i = 16 := by omega
    subst e
    iterate 2 (refine mj_r_pure rfl rfl ?_)
    refine mj_r_icmp_ge rfl (fun c1 => ?_) (fun c1 => absurd c1 (fun q => q (nI_le (Nat.le_refl 16) (by omega))))
    exact k f hf
  | succ d ih =>
    intro i f hi hf
    by_cases h4 : i < 4
    · iterate 2 (refine mj_r_pure rfl rfl ?_)
      refine mj_r_icmp_ge rfl (fun c1 => absurd c1 (nI_ge (a := i) (b := 16) (by omega) (by omega))) (fun c1 => ?_)
      refine mj_r_pure rfl rfl ?_
      refine rr_get rfl rfl rfl ?_
      iterate 3 (refine mj_r_pure rfl rfl ?_)
      refine mj_r_icmp_ge rfl (fun c2 => absurd c2 (nI_ge (a := i) (b := 4) (by omega) (by omega))) (fun c2 => ?_)
      refine mj_r_pure rfl rfl ?_
      refine rr_get rfl rfl rfl ?_
      iterate 5 (refine mj_r_pure rfl rfl ?_)
      refine rx_iald rfl rfl (ix_add (ix_mul (x := 4) rfl rfl) rfl) (by omega) ?_
      refine mj_r_pure rfl rfl ?_
      refine rx_iast rfl rfl (by first | rfl | assumption) (by omega) ?_
      iterate 2 (refine mj_r_pure rfl rfl ?_)
      rw [nI_1, sC_9]; exact ih (i + 1) _ (by omega) (fun j hj => by by_cases e : j = i; (subst e; rw [pk_us, if_pos h4]; rfl); (rw [pk_un e]; exact hf j (by omega)))
    · iterate 2 (refine mj_r_pure rfl rfl ?_)
      refine mj_r_icmp_ge rfl (fun c1 => absurd c1 (nI_ge (a := i) (b := 16) (by omega) (by omega))) (fun c1 => ?_)
      refine mj_r_pure rfl rfl ?_
      refine rr_get rfl rfl rfl ?_
      iterate 3 (refine mj_r_pure rfl rfl ?_)
      refine mj_r_icmp_ge rfl (fun c2 => ?_) (fun c2 => absurd c2 (fun q => q (nI_le (a := 4) (b := i) (by omega) (by omega))))
      refine mj_r_pure rfl rfl ?_
      refine rx_iast rfl rfl (by first | rfl | assumption) (by omega) ?_
      iterate 2 (refine mj_r_pure rfl rfl ?_)
      rw [nI_1, sC_9]; exact ih (i + 1) _ (by omega) (fun j hj => by by_cases e : j = i; (subst e; rw [pk_us, if_neg h4]); (rw [pk_un e]; exact hf j (by omega)))
set_option maxRecDepth 20000 in
set_option maxHeartbeats 4000000 in
theorem rl_walk2_open (hrot : ∀ a c : Int32, sp_rotR a c = sp_rot a c) {S : rf_S} {b n : Nat} (hS : wf_P S) (hb : b < 8) (hn : n < 2 ^ 31) (k : ∀ m : mS, m_ag m (sp_M S b n) → mj_W me_Ref_walk 91 [(0, .ref 21), (1, .int (nI b)), (2, .int (nI n)), (3, .int (nI n))] [] (rf_h (sM S m)) g nx 0 0 Q) : ∀ (d i : Nat) (m : mS), i + d = n → m_ag m (sp_M S b i) → mj_W me_Ref_walk 75 [(0, .ref 21), (1, .int (nI b)), (2, .int (nI n)), (3, .int (nI i))] [] (rf_h (sM S m)) g nx 0 0 Q := by
  intro d
  induction d with
  | zero =>
    intro i m hi hm
    have e : i = n := by omega
    subst e
    iterate 2 (refine mj_r_pure rfl rfl ?_)
    refine mj_r_icmp_ge rfl (fun c1 => ?_) (fun c1 => absurd c1 (fun q => q (nI_le (Nat.le_refl i) hn)))
    exact k m hm
  | succ d ih =>
    intro i m hi hm
    iterate 2 (refine mj_r_pure rfl rfl ?_)
    refine mj_r_icmp_ge rfl (fun c1 => absurd c1 (nI_ge (a := i) (b := n) (by omega) hn)) (fun c1 => ?_)
    iterate 2 (refine mj_r_pure rfl rfl ?_)
    refine mj_r_callV (ci := 10) (kc := 0) (ks := 0) rfl li_Ref_138 ck_Ref_step iv_Ref_step (by decide) rfl rfl ((K_Ref_step_open hrot (sM S m) b nx hS hb)) rfl rfl (Nat.le_of_ble_eq_true rfl) ?_
    rintro _ _ _ ⟨rfl, rfl, rfl⟩ _
    iterate 2 (refine mj_r_pure rfl rfl ?_)
    rw [nI_1, sM_sM]; exact ih (i + 1) _ (by omega) (m_step_ag (hS.ok b) hm)
end RLW
set_option maxRecDepth 20000 in
set_option maxHeartbeats 4000000 in
theorem K_Ref_walk_f (S : rf_S) (b s : Int32) (nx nb : Nat) (hnb : S.1 5 0 = nI nb) (h8 : nb ≤ 8) (hv : ¬ sp_vs S b s) : rK me_Ref_walk [.int b, .int s] S nx (some (.int 0)) S := by
  refine mj_K.of ok_Ref_walk ck_Ref_walk (Nat.le_of_ble_eq_true rfl) ?_
  by_cases c : isN b (S.1 5 0)
  · obtain ⟨j, hj, rfl⟩ := isN_nat (n := nb) (by omega) (by rw [← hnb]; exact c)
    iterate 2 (refine mj_r_pure rfl rfl ?_)
    refine mj_r_callV (ci := 10) (kc := 0) (ks := 0) rfl li_Ref_134 ck_Ref_isBatch iv_Ref_isBatch (by decide) rfl rfl (K_Ref_isBatch S _ nx) rfl rfl (Nat.le_of_ble_eq_true rfl) ?_
    rintro _ _ _ ⟨rfl, rfl, rfl⟩ _
    rw [bI_t c]
    refine mj_r_if_eq rfl (fun c1 => absurd c1 (by decide)) (fun c1 => ?_)
    refine mj_r_pure rfl rfl ?_
    refine mj_r_if_lt rfl (fun c2 => ?_) (fun c2 => ?_)
    · refine mj_r_pure rfl rfl ?_
      exact mj_r_iret rfl rfl rfl ⟨rfl, rfl, rfl⟩
    · iterate 2 (refine mj_r_pure rfl rfl ?_)
      refine rr_get rfl rfl rfl ?_
      refine mj_r_pure rfl rfl ?_
      refine rx_iald rfl rfl (by first | rfl | assumption) (by omega) ?_
      refine mj_r_icmp_le rfl (fun c3 => ?_) (fun c3 => ?_)
      · exact absurd ⟨c, nlt0_le c2, by rw [nI_clamp (by omega)]; exact c3⟩ hv
      · refine mj_r_pure rfl rfl ?_
        exact mj_r_iret rfl rfl rfl ⟨rfl, rfl, rfl⟩
  · iterate 2 (refine mj_r_pure rfl rfl ?_)
    refine mj_r_callV (ci := 10) (kc := 0) (ks := 0) rfl li_Ref_134 ck_Ref_isBatch iv_Ref_isBatch (by decide) rfl rfl (K_Ref_isBatch S _ nx) rfl rfl (Nat.le_of_ble_eq_true rfl) ?_
    rintro _ _ _ ⟨rfl, rfl, rfl⟩ _
    rw [bI_f c]
    refine mj_r_if_eq rfl (fun c1 => ?_) (fun c1 => absurd c1 (fun q => q rfl))
    refine mj_r_pure rfl rfl ?_
    exact mj_r_iret rfl rfl rfl ⟨rfl, rfl, rfl⟩
set_option maxRecDepth 20000 in
set_option maxHeartbeats 4000000 in
theorem K_Ref_walk_t_open (hrot : ∀ a c : Int32, sp_rotR a c = sp_rot a c) (S : rf_S) (b n nx nb : Nat) (hS : wf_P S) (hnb : S.1 5 0 = nI nb) (h8 : nb ≤ 8) (hb : b < nb) (hn : n < 2 ^ 31) (hs : nI n ≤ S.1 8 b) : mj_K me_Ref_walk [.ref 21, .int (nI b), .int (nI n)] (rf_h S) nx 0 0 (fun r h' nx' => r = some (.int 1) ∧ nx = nx' ∧ ∃ m, h' = rf_h (sM S m) ∧ m_ag m (sp_M S b n)) := by
  refine mj_K.of ok_Ref_walk ck_Ref_walk (Nat.le_of_ble_eq_true rfl) ?_
  have c : isN (nI b) (S.1 5 0) := by rw [hnb]; exact nat_isN hb (by omega)
  have hb8 : b < 8 := by omega
  have e0 : rf_h S = rf_h (sC S 9 (S.1 9)) := by rw [sC_self]
  iterate 2 (refine mj_r_pure rfl rfl ?_)
  refine mj_r_callV (ci := 10) (kc := 0) (ks := 0) rfl li_Ref_134 ck_Ref_isBatch iv_Ref_isBatch (by decide) rfl rfl (K_Ref_isBatch S _ nx) rfl rfl (Nat.le_of_ble_eq_true rfl) ?_
  rintro _ _ _ ⟨rfl, rfl, rfl⟩ _
  rw [bI_t c]
  refine mj_r_if_eq rfl (fun c1 => absurd c1 (by decide)) (fun c1 => ?_)
  refine mj_r_pure rfl rfl ?_
  refine mj_r_if_lt rfl (fun c2 => absurd c2 (nI_pos hn)) (fun c2 => ?_)
  iterate 2 (refine mj_r_pure rfl rfl ?_)
  refine rr_get rfl rfl rfl ?_
  refine mj_r_pure rfl rfl ?_
  refine rx_iald rfl rfl (by first | rfl | assumption) (by omega) ?_
  refine mj_r_icmp_le rfl (fun c3 => ?_) (fun c3 => absurd c3 (fun q => q hs))
  iterate 2 (refine mj_r_pure rfl rfl ?_)
  rw [e0]
  refine rl_walk1 hb8 (fun f hf => ?_) 16 0 (S.1 9) rfl (fun j hj => absurd hj (by omega))
  iterate 2 (refine mj_r_pure rfl rfl ?_)
  refine rr_putI rfl rfl (by decide) ?_
  iterate 2 (refine mj_r_pure rfl rfl ?_)
  refine rr_putI rfl rfl (by decide) ?_
  iterate 2 (refine mj_r_pure rfl rfl ?_)
  refine rl_walk2_open hrot hS hb8 hn (fun m hm => ?_) n 0 (f, 0, 0) (by omega) ⟨hf, rfl, rfl⟩
  exact mj_r_pure rfl rfl (mj_r_iret rfl rfl rfl ⟨rfl, rfl, m, rfl, hm⟩)
section RLT
variable {Q : mj_post} {g : mj_H} {nx : Nat}
theorem lN_16 (i : Nat) (h : 16 ≤ i) (h2 : i < 32) : (nI i).toInt64 - 16 = lN (i - 16) := by
  rw [nI_l (by omega)]
  exact lN_sub (a := i) (b := 16) h
set_option maxRecDepth 20000 in
set_option maxHeartbeats 4000000 in
theorem rl_tree {S : rf_S} (k : ∀ nd : Nat → Int64, (∀ j, 1 ≤ j → j < 32 → nd j = t_n (S.1 9) j) → mj_W me_Ref_makeTree 69 [(0, .ref 21), (1, .int (nI 0))] [] (rf_h (sD S 12 nd)) g nx 0 0 Q) : ∀ (i : Nat) (nd : Nat → Int64), i < 32 → (∀ j, i < j → j < 32 → nd j = t_n (S.1 9) j) → mj_W me_Ref_makeTree 3 [(0, .ref 21), (1, .int (nI i))] [] (rf_h (sD S 12 nd)) g nx 0 0 Q := by
  intro i
  induction i with
  | zero =>
    intro nd hi hf
    iterate 2 (refine mj_r_pure rfl rfl ?_)
    refine mj_r_icmp_lt rfl (fun c1 => ?_) (fun c1 => absurd c1 (fun q => q (nI_lt (a := 0) (b := 1) (by omega) (by omega))))
    exact k nd (fun j h1 h2 => hf j (by omega) h2)
  | succ i ih =>
    intro nd hi hf
    by_cases h16 : 16 ≤ i + 1
    · iterate 2 (refine mj_r_pure rfl rfl ?_)
      refine mj_r_icmp_lt rfl (fun c1 => absurd c1 (nI_nlt (a := i + 1) (b := 1) (by omega) (by omega))) (fun c1 => ?_)
      refine mj_r_pure rfl rfl ?_
      refine rr_get rfl rfl rfl ?_
      iterate 3 (refine mj_r_pure rfl rfl ?_)
      refine mj_r_icmp_lt rfl (fun c2 => absurd c2 (nI_nlt (a := i + 1) (b := 16) (by omega) (by omega))) (fun c2 => ?_)
      iterate 5 (refine mj_r_pure rfl rfl ?_)
      refine rr_get rfl rfl rfl ?_
      iterate 3 (refine mj_r_pure rfl rfl ?_)
      refine rx_iald rfl rfl (pk_sub (a := i + 1) (b := 16) h16) (by omega) ?_
      refine mj_r_pure rfl rfl ?_
      refine mj_r_callS (kc := 0) (ks := 0) rfl li_Ref_144 ck_Ref_mix iv_Ref_mix (by decide) rfl (K_Ref_mix _ _ _ nx) rfl rfl (Nat.le_of_ble_eq_true rfl) ?_
      rintro _ _ _ ⟨rfl, rfl, rfl⟩ _
      refine mj_r_pure rfl rfl ?_
      refine rx_last rfl rfl (by first | rfl | assumption) (by omega) ?_
      iterate 2 (refine mj_r_pure rfl rfl ?_)
      rw [pk_m1, sD_12]; exact ih _ (by omega) (fun j h1 h2 => by by_cases e : j = i + 1; (subst e; rw [pk_uLs, lN_16 _ h16 (by omega), t_n_leaf _ h16]; rfl); (rw [pk_uLn e]; exact hf j (by omega) h2))
    · iterate 2 (refine mj_r_pure rfl rfl ?_)
      refine mj_r_icmp_lt rfl (fun c1 => absurd c1 (nI_nlt (a := i + 1) (b := 1) (by omega) (by omega))) (fun c1 => ?_)
      refine mj_r_pure rfl rfl ?_
      refine rr_get rfl rfl rfl ?_
      iterate 3 (refine mj_r_pure rfl rfl ?_)
      refine mj_r_icmp_lt rfl (fun c2 => ?_) (fun c2 => absurd c2 (fun q => q (nI_lt (a := i + 1) (b := 16) (by omega) (by omega))))
      refine mj_r_pure rfl rfl ?_
      refine rr_get rfl rfl rfl ?_
      iterate 3 (refine mj_r_pure rfl rfl ?_)
      refine rx_lald rfl rfl (ix_mul (x := 2) rfl rfl) (by omega) ?_
      refine mj_r_pure rfl rfl ?_
      refine rr_get rfl rfl rfl ?_
      iterate 5 (refine mj_r_pure rfl rfl ?_)
      refine rx_lald rfl rfl (ix_add (y := 1) (ix_mul (x := 2) rfl rfl) rfl) (by omega) ?_
      refine mj_r_callS (kc := 0) (ks := 0) rfl li_Ref_144 ck_Ref_mix iv_Ref_mix (by decide) rfl (K_Ref_mix _ _ _ nx) rfl rfl (Nat.le_of_ble_eq_true rfl) ?_
      rintro _ _ _ ⟨rfl, rfl, rfl⟩ _
      refine rx_last rfl rfl (by first | rfl | assumption) (by omega) ?_
      iterate 2 (refine mj_r_pure rfl rfl ?_)
      rw [pk_m1, sD_12]; exact ih _ (by omega) (fun j h1 h2 => by by_cases e : j = i + 1; (subst e; rw [pk_uLs, t_n_up _ (by omega) (by omega), ← hf (2 * (i + 1)) (by omega) (by omega), ← hf (2 * (i + 1) + 1) (by omega) (by omega)]; rfl); (rw [pk_uLn e]; exact hf j (by omega) h2))
end RLT
set_option maxRecDepth 20000 in
set_option maxHeartbeats 4000000 in
theorem K_Ref_makeTree (S : rf_S) (nx : Nat) : mj_K me_Ref_makeTree [.ref 21] (rf_h S) nx 0 0 (fun r h' nx' => r = none ∧ nx = nx' ∧ ∃ nd, h' = rf_h (sD S 12 nd) ∧ ∀ j, 1 ≤ j → j < 32 → nd j = t_n (S.1 9) j) := by
  refine mj_K.of ok_Ref_makeTree ck_Ref_makeTree (Nat.le_of_ble_eq_true rfl) ?_
  have e0 : rf_h S = rf_h (sD S 12 (S.2 12)) := by rw [sD_self]
  iterate 2 (refine mj_r_pure rfl rfl ?_)
  rw [e0]
  refine rl_tree (fun nd hnd => ?_) 31 (S.2 12) (by omega) (fun j h1 h2 => absurd h1 (by omega))
  exact mj_r_ret rfl rfl ⟨rfl, rfl, nd, rfl, hnd⟩
set_option maxRecDepth 20000 in
set_option maxHeartbeats 4000000 in
theorem K_Ref_digestNow (S : rf_S) (nx : Nat) : mj_K me_Ref_digestNow [.ref 21] (rf_h S) nx 0 0 (fun r h' nx' => r = some (.long (m_dig (sp_m S))) ∧ nx = nx' ∧ ∃ nd, h' = rf_h (sD S 12 nd)) := by
  refine mj_K.of ok_Ref_digestNow ck_Ref_digestNow (Nat.le_of_ble_eq_true rfl) ?_
  refine mj_r_pure rfl rfl ?_
  refine mj_r_callV (ci := 10) (kc := 0) (ks := 0) rfl li_Ref_148 ck_Ref_makeTree iv_Ref_makeTree (by decide) rfl rfl (K_Ref_makeTree S nx) rfl rfl (Nat.le_of_ble_eq_true rfl) ?_
  rintro _ _ _ ⟨rfl, rfl, nd, rfl, hnd⟩ _
  refine mj_r_pure rfl rfl ?_
  refine rr_get rfl rfl rfl ?_
  refine mj_r_pure rfl rfl ?_
  refine rx_lald rfl rfl (show (1 : Int32) = nI 1 from rfl) (by omega) ?_
  refine mj_r_pure rfl rfl ?_
  refine rr_get rfl rfl rfl ?_
  refine mj_r_pure rfl rfl ?_
  refine mj_r_callS (kc := 0) (ks := 0) rfl li_Ref_144 ck_Ref_mix iv_Ref_mix (by decide) rfl (K_Ref_mix _ _ _ nx) rfl rfl (Nat.le_of_ble_eq_true rfl) ?_
  rintro _ _ _ ⟨rfl, rfl, rfl⟩ _
  exact mj_r_lret rfl rfl ⟨by show some (Value.long (sp_mix (nd 1) (S.1 10 0).toInt64)) = _; rw [hnd 1 (by omega) (by omega)]; rfl, rfl, nd, rfl⟩
/-- the scratch -/
def sX (S : rf_S) (m : mS) (nd : Nat → Int64) : rf_S := sD (sM S m) 12 nd
theorem rf_sX0 {S : rf_S} : rf_h (sX S (sp_m S) (S.2 12)) = rf_h S := by
  have e : sX S (sp_m S) (S.2 12) = sM S (sp_m S) := sD_self (sM S (sp_m S)) 12
  rw [e, rf_sM]
def sp_truth (S : rf_S) (b s : Int32) : Int64 := if isN b (S.1 5 0) ∧ 0 ≤ s ∧ s ≤ S.1 8 b.toNatClampNeg then m_dig (sp_M S b.toNatClampNeg s.toNatClampNeg) else 0
def sp_state (S : rf_S) (b s w : Int32) : Int32 := if (isN b (S.1 5 0) ∧ 0 ≤ s ∧ s ≤ S.1 8 b.toNatClampNeg) ∧ 0 ≤ w ∧ w ≤ 17 then (if w < 16 then (sp_M S b.toNatClampNeg s.toNatClampNeg).1 w.toNatClampNeg else if w = 16 then (sp_M S b.toNatClampNeg s.toNatClampNeg).2.1 else (sp_M S b.toNatClampNeg s.toNatClampNeg).2.2) else 0
def sp_node (S : rf_S) (b s i : Int32) : Int64 := if (isN b (S.1 5 0) ∧ 0 ≤ s ∧ s ≤ S.1 8 b.toNatClampNeg) ∧ 1 ≤ i ∧ i ≤ 31 then t_n (sp_M S b.toNatClampNeg s.toNatClampNeg).1 i.toNatClampNeg else 0
theorem le_nat {s : Int32} (h : 0 ≤ s) : ∃ n : Nat, n < 2 ^ 31 ∧ s = nI n := nI_of (fun q => by
  have h1 := Int32.lt_iff_toInt_lt.mp q
  have h2 := Int32.le_iff_toInt_le.mp h
  omega)
theorem sp_vs_nat {S : rf_S} {b s : Int32} {nb : Nat} (hnb : S.1 5 0 = nI nb) (h8 : nb ≤ 8) (h : sp_vs S b s) : ∃ bb n : Nat, bb < nb ∧ n < 2 ^ 31 ∧ b = nI bb ∧ s = nI n ∧ nI n ≤ S.1 8 bb ∧ b.toNatClampNeg = bb ∧ s.toNatClampNeg = n := by
  obtain ⟨bb, h1, rfl⟩ := isN_nat (n := nb) (by omega) (by rw [← hnb]; exact h.1)
  obtain ⟨n, h2, rfl⟩ := le_nat h.2.1
  refine ⟨bb, n, h1, h2, rfl, rfl, ?_, nI_clamp (by omega), nI_clamp h2⟩
  have := h.2.2
  rw [nI_clamp (by omega)] at this
  exact this
set_option maxRecDepth 20000 in
set_option maxHeartbeats 4000000 in
theorem K_Ref_truth_open (hrot : ∀ a c : Int32, sp_rotR a c = sp_rot a c) (S : rf_S) (b s : Int32) (nx nb : Nat) (hS : wf_P S) (hnb : S.1 5 0 = nI nb) (h8 : nb ≤ 8) : mj_K me_Ref_truth [.ref 21, .int b, .int s] (rf_h S) nx 0 0 (fun r h' nx' => r = some (.long (sp_truth S b s)) ∧ nx = nx' ∧ ∃ m nd, h' = rf_h (sX S m nd)) := by
  refine mj_K.of ok_Ref_truth ck_Ref_truth (Nat.le_of_ble_eq_true rfl) ?_
  by_cases c : sp_vs S b s
  · have e : sp_truth S b s = m_dig (sp_M S b.toNatClampNeg s.toNatClampNeg) := if_pos c
    rw [e]
    obtain ⟨bb, n, g1, g2, rfl, rfl, g5, g6, g7⟩ := sp_vs_nat hnb h8 c
    rw [g6, g7]
    iterate 3 (refine mj_r_pure rfl rfl ?_)
    refine mj_r_callV (ci := 10) (kc := 0) (ks := 0) rfl li_Ref_151 ck_Ref_walk iv_Ref_walk (by decide) rfl rfl ((K_Ref_walk_t_open hrot S bb n nx nb hS hnb h8 g1 g2 g5)) rfl rfl (Nat.le_of_ble_eq_true rfl) ?_
    rintro _ _ _ ⟨rfl, rfl, m, rfl, hm⟩ _
    refine mj_r_if_eq rfl (fun c1 => absurd c1 (by decide)) (fun c1 => ?_)
    refine mj_r_pure rfl rfl ?_
    refine mj_r_callV (ci := 10) (kc := 0) (ks := 0) rfl li_Ref_155 ck_Ref_digestNow iv_Ref_digestNow (by decide) rfl rfl (K_Ref_digestNow (sM S m) nx) rfl rfl (Nat.le_of_ble_eq_true rfl) ?_
    rintro _ _ _ ⟨rfl, rfl, nd, rfl⟩ _
    refine mj_r_pure rfl rfl ?_
    exact mj_r_lret rfl rfl ⟨by rw [sM_m, m_dig_ag hm], rfl, m, nd, rfl⟩
  · have e : sp_truth S b s = 0 := if_neg c
    rw [e]
    iterate 3 (refine mj_r_pure rfl rfl ?_)
    refine mj_r_callV (ci := 10) (kc := 0) (ks := 0) rfl li_Ref_151 ck_Ref_walk iv_Ref_walk (by decide) rfl rfl ((K_Ref_walk_f S b s nx nb hnb h8 c)) rfl rfl (Nat.le_of_ble_eq_true rfl) ?_
    rintro _ _ _ ⟨rfl, rfl, rfl⟩ _
    refine mj_r_if_eq rfl (fun c1 => ?_) (fun c1 => absurd c1 (fun q => q rfl))
    refine mj_r_pure rfl rfl ?_
    exact mj_r_lret rfl rfl ⟨rfl, rfl, sp_m S, S.2 12, rf_sX0.symm⟩
theorem nlt_le {x y : Int32} (h : ¬ y < x) : x ≤ y := by
  rw [Int32.lt_iff_toInt_lt] at h
  rw [Int32.le_iff_toInt_le]
  omega
theorem lt_nle {x y : Int32} (h : x < y) : ¬ y ≤ x := by
  rw [Int32.lt_iff_toInt_lt] at h
  rw [Int32.le_iff_toInt_le]
  omega
set_option maxRecDepth 20000 in
set_option maxHeartbeats 4000000 in
theorem K_Ref_state_open (hrot : ∀ a c : Int32, sp_rotR a c = sp_rot a c) (S : rf_S) (b s w : Int32) (nx nb : Nat) (hS : wf_P S) (hnb : S.1 5 0 = nI nb) (h8 : nb ≤ 8) : mj_K me_Ref_state [.ref 21, .int b, .int s, .int w] (rf_h S) nx 0 0 (fun r h' nx' => r = some (.int (sp_state S b s w)) ∧ nx = nx' ∧ ∃ m nd, h' = rf_h (sX S m nd)) := by
  refine mj_K.of ok_Ref_state ck_Ref_state (Nat.le_of_ble_eq_true rfl) ?_
  by_cases c : sp_vs S b s
  · obtain ⟨bb, n, g1, g2, rfl, rfl, g5, g6, g7⟩ := sp_vs_nat hnb h8 c
    have hx : ∀ m, rf_h (sM S m) = rf_h (sX S m (S.2 12)) := fun m => by
      have e : sX S m (S.2 12) = sM S m := sD_self (sM S m) 12
      rw [e]
    iterate 3 (refine mj_r_pure rfl rfl ?_)
    refine mj_r_callV (ci := 10) (kc := 0) (ks := 0) rfl li_Ref_151 ck_Ref_walk iv_Ref_walk (by decide) rfl rfl ((K_Ref_walk_t_open hrot S bb n nx nb hS hnb h8 g1 g2 g5)) rfl rfl (Nat.le_of_ble_eq_true rfl) ?_
    rintro _ _ _ ⟨rfl, rfl, m, rfl, hm⟩ _
    refine mj_r_if_eq rfl (fun c1 => absurd c1 (by decide)) (fun c1 => ?_)
    refine mj_r_pure rfl rfl ?_
    refine mj_r_if_lt rfl (fun c2 => ?_) (fun c2 => ?_)
    · refine mj_r_pure rfl rfl ?_
      exact mj_r_iret rfl rfl rfl ⟨by rw [sp_state, if_neg (fun q => absurd q.2.1 (by rw [Int32.le_iff_toInt_le]; rw [Int32.lt_iff_toInt_lt] at c2; omega))], rfl, m, S.2 12, hx m⟩
    · iterate 2 (refine mj_r_pure rfl rfl ?_)
      refine mj_r_icmp_le rfl (fun c3 => ?_) (fun c3 => ?_)
      · iterate 2 (refine mj_r_pure rfl rfl ?_)
        refine mj_r_icmp_ge rfl (fun c4 => ?_) (fun c4 => ?_)
        · iterate 2 (refine mj_r_pure rfl rfl ?_)
          refine mj_r_icmp_ne rfl (fun c5 => ?_) (fun c5 => ?_)
          · refine mj_r_pure rfl rfl ?_
            refine rr_get rfl rfl rfl ?_
            exact mj_r_iret rfl rfl rfl ⟨by rw [sp_state, if_pos ⟨c, nlt0_le c2, c3⟩, if_neg (fun q => absurd c4 (lt_nle q)), if_neg c5, g6, g7, ← hm.2.2]; rfl, rfl, m, S.2 12, hx m⟩
          · refine mj_r_pure rfl rfl ?_
            refine rr_get rfl rfl rfl ?_
            refine mj_r_pure rfl rfl ?_
            exact mj_r_iret rfl rfl rfl ⟨by rw [sp_state, if_pos ⟨c, nlt0_le c2, c3⟩, if_neg (fun q => absurd c4 (lt_nle q)), if_pos c5, g6, g7, ← hm.2.1]; rfl, rfl, m, S.2 12, hx m⟩
        · obtain ⟨j, hj, rfl⟩ := isN_nat (n := 16) (x := w) (by omega) ⟨nlt0_le c2, nge_lt c4⟩
          refine mj_r_pure rfl rfl ?_
          refine rr_get rfl rfl rfl ?_
          refine mj_r_pure rfl rfl ?_
          refine rx_iald rfl rfl (by first | rfl | assumption) (by omega) ?_
          refine mj_r_pure rfl rfl ?_
          exact mj_r_iret rfl rfl rfl ⟨by rw [sp_state, if_pos ⟨c, nlt0_le c2, c3⟩, if_pos (nge_lt c4), g6, g7, nI_clamp (by omega), ← hm.1 j hj]; rfl, rfl, m, S.2 12, hx m⟩
      · refine mj_r_pure rfl rfl ?_
        exact mj_r_iret rfl rfl rfl ⟨by rw [sp_state, if_neg (fun q => absurd q.2.2 c3)], rfl, m, S.2 12, hx m⟩
  · have e : sp_state S b s w = 0 := if_neg (fun q => c q.1)
    rw [e]
    iterate 3 (refine mj_r_pure rfl rfl ?_)
    refine mj_r_callV (ci := 10) (kc := 0) (ks := 0) rfl li_Ref_151 ck_Ref_walk iv_Ref_walk (by decide) rfl rfl ((K_Ref_walk_f S b s nx nb hnb h8 c)) rfl rfl (Nat.le_of_ble_eq_true rfl) ?_
    rintro _ _ _ ⟨rfl, rfl, rfl⟩ _
    refine mj_r_if_eq rfl (fun c1 => ?_) (fun c1 => absurd c1 (fun q => q rfl))
    refine mj_r_pure rfl rfl ?_
    exact mj_r_iret rfl rfl rfl ⟨rfl, rfl, sp_m S, S.2 12, rf_sX0.symm⟩
theorem r1_31 {i : Int32} (h1 : ¬ i < 1) (h2 : ¬ 31 < i) : ∃ j : Nat, 1 ≤ j ∧ j < 32 ∧ i = nI j := by
  rw [Int32.lt_iff_toInt_lt] at h1 h2
  have e1 : (1 : Int32).toInt = 1 := by decide +kernel
  have e2 : (31 : Int32).toInt = 31 := by decide +kernel
  have e3 : (nI 32).toInt = 32 := by decide +kernel
  have e4 : (0 : Int32).toInt = 0 := by decide +kernel
  obtain ⟨j, hj, rfl⟩ := isN_nat (n := 32) (x := i) (by omega) ⟨by rw [Int32.le_iff_toInt_le]; omega, by rw [Int32.lt_iff_toInt_lt]; omega⟩
  rw [nI_toInt (by omega)] at h1
  exact ⟨j, by omega, hj, rfl⟩
set_option maxRecDepth 20000 in
set_option maxHeartbeats 4000000 in
theorem K_Ref_node_open (hrot : ∀ a c : Int32, sp_rotR a c = sp_rot a c) (S : rf_S) (b s i : Int32) (nx nb : Nat) (hS : wf_P S) (hnb : S.1 5 0 = nI nb) (h8 : nb ≤ 8) : mj_K me_Ref_node [.ref 21, .int b, .int s, .int i] (rf_h S) nx 0 0 (fun r h' nx' => r = some (.long (sp_node S b s i)) ∧ nx = nx' ∧ ∃ m nd, h' = rf_h (sX S m nd)) := by
  refine mj_K.of ok_Ref_node ck_Ref_node (Nat.le_of_ble_eq_true rfl) ?_
  by_cases c : sp_vs S b s
  · obtain ⟨bb, n, g1, g2, rfl, rfl, g5, g6, g7⟩ := sp_vs_nat hnb h8 c
    iterate 2 (refine mj_r_pure rfl rfl ?_)
    refine mj_r_icmp_lt rfl (fun c1 => ?_) (fun c1 => ?_)
    · refine mj_r_pure rfl rfl ?_
      exact mj_r_lret rfl rfl ⟨by rw [sp_node, if_neg (fun q => absurd c1 (by rw [Int32.lt_iff_toInt_lt]; have := Int32.le_iff_toInt_le.mp q.2.1; omega))], rfl, sp_m S, S.2 12, rf_sX0.symm⟩
    · iterate 2 (refine mj_r_pure rfl rfl ?_)
      refine mj_r_icmp_gt rfl (fun c2 => ?_) (fun c2 => ?_)
      · refine mj_r_pure rfl rfl ?_
        exact mj_r_lret rfl rfl ⟨by rw [sp_node, if_neg (fun q => absurd q.2.2 (lt_nle c2))], rfl, sp_m S, S.2 12, rf_sX0.symm⟩
      · iterate 3 (refine mj_r_pure rfl rfl ?_)
        refine mj_r_callV (ci := 10) (kc := 0) (ks := 0) rfl li_Ref_151 ck_Ref_walk iv_Ref_walk (by decide) rfl rfl ((K_Ref_walk_t_open hrot S bb n nx nb hS hnb h8 g1 g2 g5)) rfl rfl (Nat.le_of_ble_eq_true rfl) ?_
        rintro _ _ _ ⟨rfl, rfl, m, rfl, hm⟩ _
        refine mj_r_if_ne rfl (fun c3 => ?_) (fun c3 => absurd c3 (by decide))
        refine mj_r_pure rfl rfl ?_
        refine mj_r_callV (ci := 10) (kc := 0) (ks := 0) rfl li_Ref_148 ck_Ref_makeTree iv_Ref_makeTree (by decide) rfl rfl (K_Ref_makeTree (sM S m) nx) rfl rfl (Nat.le_of_ble_eq_true rfl) ?_
        rintro _ _ _ ⟨rfl, rfl, nd, rfl, hnd⟩ _
        obtain ⟨j, hj1, hj, rfl⟩ := r1_31 c1 c2
        refine mj_r_pure rfl rfl ?_
        refine rr_get rfl rfl rfl ?_
        refine mj_r_pure rfl rfl ?_
        refine rx_lald rfl rfl (by first | rfl | assumption) (by omega) ?_
        exact mj_r_lret rfl rfl ⟨by rw [sp_node, if_pos ⟨c, nlt_le c1, nlt_le c2⟩, g6, g7, nI_clamp (by omega)]; show some (Value.long (nd j)) = _; rw [hnd j hj1 hj]; show some (Value.long (t_n m.1 j)) = _; rw [t_n_ag hm.1 hj1 hj], rfl, m, nd, rfl⟩
  · have e : sp_node S b s i = 0 := if_neg (fun q => c q.1)
    rw [e]
    iterate 2 (refine mj_r_pure rfl rfl ?_)
    refine mj_r_icmp_lt rfl (fun c1 => ?_) (fun c1 => ?_)
    · refine mj_r_pure rfl rfl ?_
      exact mj_r_lret rfl rfl ⟨rfl, rfl, sp_m S, S.2 12, rf_sX0.symm⟩
    · iterate 2 (refine mj_r_pure rfl rfl ?_)
      refine mj_r_icmp_gt rfl (fun c2 => ?_) (fun c2 => ?_)
      · refine mj_r_pure rfl rfl ?_
        exact mj_r_lret rfl rfl ⟨rfl, rfl, sp_m S, S.2 12, rf_sX0.symm⟩
      · iterate 3 (refine mj_r_pure rfl rfl ?_)
        refine mj_r_callV (ci := 10) (kc := 0) (ks := 0) rfl li_Ref_151 ck_Ref_walk iv_Ref_walk (by decide) rfl rfl ((K_Ref_walk_f S b s nx nb hnb h8 c)) rfl rfl (Nat.le_of_ble_eq_true rfl) ?_
        rintro _ _ _ ⟨rfl, rfl, rfl⟩ _
        refine mj_r_if_ne rfl (fun c3 => absurd c3 (fun q => q rfl)) (fun c3 => ?_)
        refine mj_r_pure rfl rfl ?_
        exact mj_r_lret rfl rfl ⟨rfl, rfl, sp_m S, S.2 12, rf_sX0.symm⟩
