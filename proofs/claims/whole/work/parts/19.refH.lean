/-! the reference: ticks, choose, questions -/
def sp_td1 (T : rf_S) (d nd : Nat) : rf_S :=
  if T.1 24 d = 0 then
    (if T.1 30 d = 1 then (if T.1 32 d + 1 = 30 then sp_cw (sA T 32 d (T.1 32 d + 1)) d else sA T 32 d (T.1 32 d + 1))
     else (if T.1 31 d + 1 = 30 then sp_dw (sA T 31 d (T.1 31 d + 1)) d nd else sA T 31 d (T.1 31 d + 1)))
  else T
def sp_td (S : rf_S) (nd : Nat) : Nat → rf_S
  | 0 => S
  | n + 1 => sp_td1 (sp_td S nd n) n nd
theorem sp_td1_kp (T : rf_S) (d nd : Nat) : kp LT_ T (sp_td1 T d nd) := by
  unfold sp_td1
  split
  · split
    · split
      · exact ((kp.rf T).a (by decide) _ _).tr (sp_cw_kp _ _)
      · exact (kp.rf T).a (by decide) _ _
    · split
      · exact ((kp.rf T).a (by decide) _ _).tr (sp_dw_kp _ _ _)
      · exact (kp.rf T).a (by decide) _ _
  · exact kp.rf T
theorem sp_td_kp (S : rf_S) (nd n : Nat) : kp LT_ S (sp_td S nd n) := by
  induction n with
  | zero => exact kp.rf S
  | succ n ih => exact ih.tr (sp_td1_kp _ _ _)
def sp_tc1 (T : rf_S) (c nd : Nat) : rf_S :=
  if T.1 19 c = 0 ∧ nI (sp_open T (nI c) nd) = 0 ∧ ¬ T.1 13 0 - T.1 20 c < 40 then sA (sA T 19 c 1) 14 (T.1 16 c).toNatClampNeg (T.1 14 (T.1 16 c).toNatClampNeg + 100) else T
def sp_tc (S : rf_S) (nd : Nat) : Nat → rf_S
  | 0 => S
  | n + 1 => sp_tc1 (sp_tc S nd n) n nd
theorem sp_tc1_kp (T : rf_S) (c nd : Nat) : kp LT_ T (sp_tc1 T c nd) := by
  unfold sp_tc1
  split
  · exact ((kp.rf T).a (by decide) _ _).a (by decide) _ _
  · exact kp.rf T
theorem sp_tc_kp (S : rf_S) (nd n : Nat) : kp LT_ S (sp_tc S nd n) := by
  induction n with
  | zero => exact kp.rf S
  | succ n ih => exact ih.tr (sp_tc1_kp _ _ _)
def sp_t1 (S : rf_S) (nc nd : Nat) : rf_S := sp_tc (sp_td (sI S 13 (S.1 13 0 + 1)) nd nd) nd nc
def sp_tN (S : rf_S) (nc nd : Nat) : Nat → rf_S
  | 0 => S
  | n + 1 => sp_t1 (sp_tN S nc nd n) nc nd
theorem sp_t1_kp (S : rf_S) (nc nd : Nat) : kp LT_ S (sp_t1 S nc nd) := (((kp.rf S).i (by decide) _).tr (sp_td_kp _ _ _)).tr (sp_tc_kp _ _ _)
theorem sp_tN_kp (S : rf_S) (nc nd n : Nat) : kp LT_ S (sp_tN S nc nd n) := by
  induction n with
  | zero => exact kp.rf S
  | succ n ih => exact ih.tr (sp_t1_kp _ _ _)
set_option maxRecDepth 20000 in
set_option maxHeartbeats 4000000 in
theorem rl_td {Q : mj_post} {g : mj_H} {nx nc nd : Nat} {S : rf_S} (h : wf_D S nc nd) (k : mj_W me_Ref_tickOnce 100 [(0, .ref 21), (1, .int (nI nd))] [] (rf_h (sp_td S nd nd)) g nx 0 0 Q) : ∀ (d i : Nat), i + d = nd → mj_W me_Ref_tickOnce 12 [(0, .ref 21), (1, .int (nI i))] [] (rf_h (sp_td S nd i)) g nx 0 0 Q := by
  have h80 := h.2.1
  intro d
  induction d with
  | zero =>
    intro i hi
    have e : i = nd := by omega
    subst e
    have hw := h.kp (sp_td_kp S i i)
    iterate 2 (refine mj_r_pure rfl rfl ?_)
    refine rr_get rfl rfl rfl ?_
    refine mj_r_icmp_ge rfl (fun c1 => ?_) (fun c1 => absurd c1 (fun q => q (by rw [hw.1]; exact nI_le (Nat.le_refl _) (by omega))))
    exact k
  | succ d ih =>
    intro i hi
    have e := ih (i + 1) (by omega)
    unfold sp_td at e
    have hw := h.kp (sp_td_kp S nd i)
    generalize sp_td S nd i = T at e hw ⊢
    unfold sp_td1 at e
    iterate 2 (refine mj_r_pure rfl rfl ?_)
    refine rr_get rfl rfl rfl ?_
    refine mj_r_icmp_ge rfl (fun c1 => absurd c1 (by rw [hw.1]; exact nI_ge (by omega) (by omega))) (fun c1 => ?_)
    refine mj_r_pure rfl rfl ?_
    refine rr_get rfl rfl rfl ?_
    refine mj_r_pure rfl rfl ?_
    refine rx_iald rfl rfl (by first | rfl | assumption) (by omega) ?_
    refine mj_r_if_ne rfl (fun c2 => ?_) (fun c2 => ?_)
    · iterate 2 (refine mj_r_pure rfl rfl ?_)
      rw [if_neg c2] at e; rw [nI_1]; exact e
    · refine mj_r_pure rfl rfl ?_
      refine rr_get rfl rfl rfl ?_
      refine mj_r_pure rfl rfl ?_
      refine rx_iald rfl rfl (by first | rfl | assumption) (by omega) ?_
      refine mj_r_pure rfl rfl ?_
      refine mj_r_icmp_ne rfl (fun c3 => ?_) (fun c3 => ?_)
      · refine mj_r_pure rfl rfl ?_
        refine rr_get rfl rfl rfl ?_
        iterate 2 (refine mj_r_pure rfl rfl ?_)
        refine rx_iald rfl rfl (by first | rfl | assumption) (by omega) ?_
        iterate 2 (refine mj_r_pure rfl rfl ?_)
        refine rx_iast rfl rfl (by first | rfl | assumption) (by omega) ?_
        refine mj_r_pure rfl rfl ?_
        refine rr_get rfl rfl rfl ?_
        refine mj_r_pure rfl rfl ?_
        refine rx_iald rfl rfl (by first | rfl | assumption) (by omega) ?_
        refine mj_r_pure rfl rfl ?_
        refine mj_r_icmp_ne rfl (fun c4 => ?_) (fun c4 => ?_)
        · iterate 2 (refine mj_r_pure rfl rfl ?_)
          rw [if_pos c2, if_neg c3, if_neg (fun z => c4 (pk_us.trans z))] at e; rw [nI_1]; exact e
        · iterate 2 (refine mj_r_pure rfl rfl ?_)
          refine mj_r_callV (ci := 10) (kc := 0) (ks := 0) rfl li_Ref_210 ck_Ref_disputerWins iv_Ref_disputerWins (by decide) rfl rfl (K_Ref_disputerWins (sA T 31 i (T.1 31 i + 1)) i nx nc nd (hw.kp ((kp.rf T).a (by decide) _ _)) (by omega)) rfl rfl (Nat.le_of_ble_eq_true rfl) ?_
          rintro _ _ _ ⟨rfl, rfl, rfl⟩ _
          iterate 2 (refine mj_r_pure rfl rfl ?_)
          rw [if_pos c2, if_neg c3, if_pos (pk_us.symm.trans c4)] at e; rw [nI_1]; exact e
      · refine mj_r_pure rfl rfl ?_
        refine rr_get rfl rfl rfl ?_
        iterate 2 (refine mj_r_pure rfl rfl ?_)
        refine rx_iald rfl rfl (by first | rfl | assumption) (by omega) ?_
        iterate 2 (refine mj_r_pure rfl rfl ?_)
        refine rx_iast rfl rfl (by first | rfl | assumption) (by omega) ?_
        refine mj_r_pure rfl rfl ?_
        refine rr_get rfl rfl rfl ?_
        refine mj_r_pure rfl rfl ?_
        refine rx_iald rfl rfl (by first | rfl | assumption) (by omega) ?_
        refine mj_r_pure rfl rfl ?_
        refine mj_r_icmp_ne rfl (fun c5 => ?_) (fun c5 => ?_)
        · iterate 2 (refine mj_r_pure rfl rfl ?_)
          rw [if_pos c2, if_pos c3, if_neg (fun z => c5 (pk_us.trans z))] at e; rw [nI_1]; exact e
        · iterate 2 (refine mj_r_pure rfl rfl ?_)
          refine mj_r_callV (ci := 10) (kc := 0) (ks := 0) rfl li_Ref_207 ck_Ref_claimantWins iv_Ref_claimantWins (by decide) rfl rfl (K_Ref_claimantWins (sA T 32 i (T.1 32 i + 1)) i nx nc nd (hw.kp ((kp.rf T).a (by decide) _ _)) (by omega)) rfl rfl (Nat.le_of_ble_eq_true rfl) ?_
          rintro _ _ _ ⟨rfl, rfl, rfl⟩ _
          iterate 3 (refine mj_r_pure rfl rfl ?_)
          rw [if_pos c2, if_pos c3, if_pos (pk_us.symm.trans c5)] at e; rw [nI_1]; exact e
set_option maxRecDepth 20000 in
set_option maxHeartbeats 4000000 in
theorem rl_tc {Q : mj_post} {g : mj_H} {nx nc nd : Nat} {S : rf_S} (h : wf_D S nc nd) (k : mj_W me_Ref_tickOnce 172 [(0, .ref 21), (1, .int (nI nc))] [] (rf_h (sp_tc S nd nc)) g nx 0 0 Q) : ∀ (d i : Nat), i + d = nc → mj_W me_Ref_tickOnce 102 [(0, .ref 21), (1, .int (nI i))] [] (rf_h (sp_tc S nd i)) g nx 0 0 Q := by
  have h80 := h.2.1
  have h40 := h.2.2.2.1
  intro d
  induction d with
  | zero =>
    intro i hi
    have e : i = nc := by omega
    subst e
    have hw := h.kp (sp_tc_kp S nd i)
    iterate 2 (refine mj_r_pure rfl rfl ?_)
    refine rr_get rfl rfl rfl ?_
    refine mj_r_icmp_ge rfl (fun c1 => ?_) (fun c1 => absurd c1 (fun q => q (by rw [hw.2.2.1]; exact nI_le (Nat.le_refl _) (by omega))))
    exact k
  | succ d ih =>
    intro i hi
    have e := ih (i + 1) (by omega)
    unfold sp_tc at e
    have hw := h.kp (sp_tc_kp S nd i)
    generalize sp_tc S nd i = T at e hw ⊢
    obtain ⟨p, hp, hp2⟩ := hw.2.2.2.2.2.2 i (by omega)
    unfold sp_tc1 at e
    rw [hp2, nI_clamp (by omega)] at e
    iterate 2 (refine mj_r_pure rfl rfl ?_)
    refine rr_get rfl rfl rfl ?_
    refine mj_r_icmp_ge rfl (fun c1 => absurd c1 (by rw [hw.2.2.1]; exact nI_ge (by omega) (by omega))) (fun c1 => ?_)
    refine mj_r_pure rfl rfl ?_
    refine rr_get rfl rfl rfl ?_
    refine mj_r_pure rfl rfl ?_
    refine rx_iald rfl rfl (by first | rfl | assumption) (by omega) ?_
    refine mj_r_if_ne rfl (fun c2 => ?_) (fun c2 => ?_)
    · iterate 2 (refine mj_r_pure rfl rfl ?_)
      rw [if_neg (fun q => c2 q.1)] at e; rw [nI_1]; exact e
    · iterate 2 (refine mj_r_pure rfl rfl ?_)
      refine mj_r_callV (ci := 10) (kc := 0) (ks := 0) rfl li_Ref_174 ck_Ref_openAt iv_Ref_openAt (by decide) rfl rfl (K_Ref_openAt T (nI i) nx nd hw.1 h80) rfl rfl (Nat.le_of_ble_eq_true rfl) ?_
      rintro _ _ _ ⟨rfl, rfl, rfl⟩ _
      refine mj_r_if_ne rfl (fun c3 => ?_) (fun c3 => ?_)
      · iterate 2 (refine mj_r_pure rfl rfl ?_)
        rw [if_neg (fun q => c3 q.2.1)] at e; rw [nI_1]; exact e
      · refine mj_r_pure rfl rfl ?_
        refine rr_get rfl rfl rfl ?_
        refine mj_r_pure rfl rfl ?_
        refine rr_get rfl rfl rfl ?_
        refine mj_r_pure rfl rfl ?_
        refine rx_iald rfl rfl (by first | rfl | assumption) (by omega) ?_
        iterate 2 (refine mj_r_pure rfl rfl ?_)
        refine mj_r_icmp_lt rfl (fun c4 => ?_) (fun c4 => ?_)
        · iterate 2 (refine mj_r_pure rfl rfl ?_)
          rw [if_neg (fun q => q.2.2 c4)] at e; rw [nI_1]; exact e
        · refine mj_r_pure rfl rfl ?_
          refine rr_get rfl rfl rfl ?_
          iterate 2 (refine mj_r_pure rfl rfl ?_)
          refine rx_iast rfl rfl (by first | rfl | assumption) (by omega) ?_
          refine mj_r_pure rfl rfl ?_
          refine rr_get rfl rfl rfl ?_
          refine mj_r_pure rfl rfl ?_
          refine rr_get rfl rfl rfl ?_
          refine mj_r_pure rfl rfl ?_
          refine rx_iald rfl rfl (by first | rfl | assumption) (by omega) ?_
          refine mj_r_pure rfl rfl ?_
          refine rx_iald rfl rfl (by first | rfl | assumption) (by omega) ?_
          iterate 2 (refine mj_r_pure rfl rfl ?_)
          refine rx_iast rfl rfl (by first | rfl | assumption) (by omega) ?_
          iterate 2 (refine mj_r_pure rfl rfl ?_)
          rw [if_pos ⟨c2, c3, c4⟩] at e; rw [nI_1]; exact e
set_option maxRecDepth 20000 in
set_option maxHeartbeats 4000000 in
theorem K_Ref_tickOnce (S : rf_S) (nx nc nd : Nat) (h : wf_D S nc nd) : rK me_Ref_tickOnce [] S nx none (sp_t1 S nc nd) := by
  refine mj_K.of ok_Ref_tickOnce ck_Ref_tickOnce (Nat.le_of_ble_eq_true rfl) ?_
  have h1 : wf_D (sI S 13 (S.1 13 0 + 1)) nc nd := h.kp ((kp.rf S).i (by decide) _)
  iterate 2 (refine mj_r_pure rfl rfl ?_)
  refine rr_get rfl rfl rfl ?_
  iterate 2 (refine mj_r_pure rfl rfl ?_)
  refine rr_putI rfl rfl (by decide) ?_
  iterate 2 (refine mj_r_pure rfl rfl ?_)
  refine rl_td (S := sI S 13 (S.1 13 0 + 1)) h1 ?_ nd 0 (by omega)
  iterate 2 (refine mj_r_pure rfl rfl ?_)
  refine rl_tc (S := sp_td (sI S 13 (S.1 13 0 + 1)) nd nd) (h1.kp (sp_td_kp _ _ _)) ?_ nc 0 (by omega)
  exact mj_r_ret rfl rfl ⟨rfl, rfl, rfl⟩
def sp_tick (S : rf_S) (n : Int32) (nc nd : Nat) : Int32 × rf_S := if 0 ≤ n ∧ n ≤ 200 then ((sp_tN S nc nd n.toNatClampNeg).1 13 0, sp_tN S nc nd n.toNatClampNeg) else (-1, S)
set_option maxRecDepth 20000 in
set_option maxHeartbeats 4000000 in
theorem rl_tick {Q : mj_post} {g : mj_H} {nx nc nd n : Nat} {S : rf_S} (h : wf_D S nc nd) (hn : n < 2 ^ 31) (k : mj_W me_Ref_tick 30 [(0, .ref 21), (1, .int (nI n)), (2, .int (nI n))] [] (rf_h (sp_tN S nc nd n)) g nx 0 0 Q) : ∀ (d i : Nat), i + d = n → mj_W me_Ref_tick 15 [(0, .ref 21), (1, .int (nI n)), (2, .int (nI i))] [] (rf_h (sp_tN S nc nd i)) g nx 0 0 Q := by
  intro d
  induction d with
  | zero =>
    intro i hi
    have e : i = n := by omega
    subst e
    iterate 2 (refine mj_r_pure rfl rfl ?_)
    refine mj_r_icmp_ge rfl (fun c1 => ?_) (fun c1 => absurd c1 (fun q => q (nI_le (Nat.le_refl _) hn)))
    exact k
  | succ d ih =>
    intro i hi
    have e := ih (i + 1) (by omega)
    iterate 2 (refine mj_r_pure rfl rfl ?_)
    refine mj_r_icmp_ge rfl (fun c1 => absurd c1 (nI_ge (by omega) hn)) (fun c1 => ?_)
    refine mj_r_pure rfl rfl ?_
    refine mj_r_callV (ci := 10) (kc := 0) (ks := 0) rfl li_Ref_221 ck_Ref_tickOnce iv_Ref_tickOnce (by decide) rfl rfl (K_Ref_tickOnce (sp_tN S nc nd i) nx nc nd (h.kp (sp_tN_kp _ _ _ _))) rfl rfl (Nat.le_of_ble_eq_true rfl) ?_
    rintro _ _ _ ⟨rfl, rfl, rfl⟩ _
    iterate 2 (refine mj_r_pure rfl rfl ?_)
    rw [nI_1]; exact e
set_option maxRecDepth 20000 in
set_option maxHeartbeats 4000000 in
theorem K_Ref_tick (S : rf_S) (n : Int32) (nx nc nd : Nat) (h : wf_D S nc nd) : rKi me_Ref_tick [.int n] S nx (sp_tick S n nc nd) := by
  refine mj_K.of ok_Ref_tick ck_Ref_tick (Nat.le_of_ble_eq_true rfl) ?_
  by_cases c : 0 ≤ n ∧ n ≤ 200
  · obtain ⟨j, hj, rfl⟩ := le_nat c.1
    rw [show sp_tick S (nI j) nc nd = ((sp_tN S nc nd j).1 13 0, sp_tN S nc nd j) by rw [sp_tick, if_pos c, nI_clamp hj]]
    refine mj_r_pure rfl rfl ?_
    refine mj_r_if_lt rfl (fun c1 => absurd c1 (nI_pos hj)) (fun c1 => ?_)
    iterate 2 (refine mj_r_pure rfl rfl ?_)
    refine mj_r_icmp_le rfl (fun c2 => ?_) (fun c2 => absurd c2 (fun q => q c.2))
    iterate 2 (refine mj_r_pure rfl rfl ?_)
    refine rl_tick h hj ?_ j 0 (by omega)
    refine mj_r_pure rfl rfl ?_
    refine rr_get rfl rfl rfl ?_
    exact mj_r_iret rfl rfl rfl ⟨rfl, rfl, rfl⟩
  · refine mj_r_pure rfl rfl ?_
    refine mj_r_if_lt rfl (fun c1 => ?_) (fun c1 => ?_)
    · refine mj_r_pure rfl rfl ?_
      exact mj_r_iret rfl rfl rfl (rq (by refine if_neg (fun q => ?_); exact c q))
    · iterate 2 (refine mj_r_pure rfl rfl ?_)
      refine mj_r_icmp_le rfl (fun c2 => ?_) (fun c2 => ?_)
      · iterate 2 (refine mj_r_pure rfl rfl ?_)
        exact absurd ⟨nlt0_le c1, c2⟩ c
      · refine mj_r_pure rfl rfl ?_
        exact mj_r_iret rfl rfl rfl (rq (by refine if_neg (fun q => ?_); exact c q))
def sp_ch2 (S : rf_S) (d : Nat) (o : Int32) : rf_S :=
  sL (if o = 0 then sL (sA S 25 d ((S.1 25 d + S.1 26 d) / 2)) 27 d (S.2 29 d) else sL (sA S 26 d ((S.1 25 d + S.1 26 d) / 2)) 28 d (S.2 29 d)) 29 d 0
def sp_choose1 (S : rf_S) (d : Nat) (o : Int32) : rf_S :=
  sA (sA (sp_ch2 S d o) 30 d (if (sp_ch2 S d o).1 26 d = (sp_ch2 S d o).1 25 d + 1 then 2 else 0)) 33 d (S.1 33 d + 1)
def sp_choose (S : rf_S) (d o : Int32) : Int32 × rf_S :=
  if isN d (S.1 21 0) ∧ S.1 24 d.toNatClampNeg = 0 ∧ S.1 30 d.toNatClampNeg = 1 ∧ 0 ≤ o ∧ o ≤ 1 then ((sp_choose1 S d.toNatClampNeg o).1 26 d.toNatClampNeg - (sp_choose1 S d.toNatClampNeg o).1 25 d.toNatClampNeg, sp_choose1 S d.toNatClampNeg o) else (-1, S)
set_option maxRecDepth 20000 in
set_option maxHeartbeats 4000000 in
theorem K_Ref_choose (S : rf_S) (d o : Int32) (nx nd : Nat) (hnd : S.1 21 0 = nI nd) (h80 : nd ≤ 80) : rKi me_Ref_choose [.int d, .int o] S nx (sp_choose S d o) := by
  refine mj_K.of ok_Ref_choose ck_Ref_choose (Nat.le_of_ble_eq_true rfl) ?_
  by_cases a1 : isN d (S.1 21 0)
  · obtain ⟨j, hj, rfl⟩ := isN_nat (n := nd) (by omega) (by rw [← hnd]; exact a1)
    have ej : (nI j).toNatClampNeg = j := nI_clamp (by omega)
    have fin : S.1 24 j = 0 → S.1 30 j = 1 → 0 ≤ o → o ≤ 1 → ∀ S', S' = sp_choose1 S j o → sp_choose S (nI j) o = (S'.1 26 j - S'.1 25 j, S') := fun a b c e S' h => by
      subst h
      unfold sp_choose
      rw [ej, if_pos ⟨a1, a, b, c, e⟩]
    have g1 : ∀ {T : rf_S} {z : Int32}, sp_ch2 S j o = T → (if T.1 26 j = T.1 25 j + 1 then 2 else 0) = z → sA (sA T 30 j z) 33 j (S.1 33 j + 1) = sp_choose1 S j o := fun e1 e2 => by unfold sp_choose1; rw [e1, e2]
    have g2 : ¬ o = 0 → sp_ch2 S j o = sL (sL (sA S 26 j ((S.1 25 j + S.1 26 j) / 2)) 28 j (S.2 29 j)) 29 j 0 := fun h => by unfold sp_ch2; rw [if_neg h]
    have g3 : o = 0 → sp_ch2 S j o = sL (sL (sA S 25 j ((S.1 25 j + S.1 26 j) / 2)) 27 j (S.2 29 j)) 29 j 0 := fun h => by unfold sp_ch2; rw [if_pos h]
    iterate 2 (refine mj_r_pure rfl rfl ?_)
    refine mj_r_callV (ci := 10) (kc := 0) (ks := 0) rfl li_Ref_181 ck_Ref_isDispute iv_Ref_isDispute (by decide) rfl rfl (K_Ref_isDispute S _ nx) rfl rfl (Nat.le_of_ble_eq_true rfl) ?_
    rintro _ _ _ ⟨rfl, rfl, rfl⟩ _
    rw [bI_t a1]
    refine mj_r_if_eq rfl (fun c1 => absurd c1 (by decide)) (fun c1 => ?_)
    refine mj_r_pure rfl rfl ?_
    refine rr_get rfl rfl rfl ?_
    refine mj_r_pure rfl rfl ?_
    refine rx_iald rfl rfl (by first | rfl | assumption) (by omega) ?_
    refine mj_r_if_ne rfl (fun c2 => ?_) (fun c2 => ?_)
    · refine mj_r_pure rfl rfl ?_
      exact mj_r_iret rfl rfl rfl (rq (by refine if_neg (fun q => ?_); exact absurd (by rw [ej] at q; exact q.2.1) c2))
    · refine mj_r_pure rfl rfl ?_
      refine rr_get rfl rfl rfl ?_
      refine mj_r_pure rfl rfl ?_
      refine rx_iald rfl rfl (by first | rfl | assumption) (by omega) ?_
      refine mj_r_pure rfl rfl ?_
      refine mj_r_icmp_ne rfl (fun c3 => ?_) (fun c3 => ?_)
      · refine mj_r_pure rfl rfl ?_
        exact mj_r_iret rfl rfl rfl (rq (by refine if_neg (fun q => ?_); exact absurd (by rw [ej] at q; exact q.2.2.1) c3))
      · refine mj_r_pure rfl rfl ?_
        refine mj_r_if_lt rfl (fun c4 => ?_) (fun c4 => ?_)
        · refine mj_r_pure rfl rfl ?_
          exact mj_r_iret rfl rfl rfl (rq (by refine if_neg (fun q => ?_); exact absurd q.2.2.2.1 (lt0_nge c4)))
        · iterate 2 (refine mj_r_pure rfl rfl ?_)
          refine mj_r_icmp_le rfl (fun c5 => ?_) (fun c5 => ?_)
          · iterate 3 (refine mj_r_pure rfl rfl ?_)
            refine rr_get rfl rfl rfl ?_
            refine mj_r_pure rfl rfl ?_
            refine rx_iald rfl rfl (by first | rfl | assumption) (by omega) ?_
            refine mj_r_pure rfl rfl ?_
            refine rr_get rfl rfl rfl ?_
            refine mj_r_pure rfl rfl ?_
            refine rx_iald rfl rfl (by first | rfl | assumption) (by omega) ?_
            iterate 5 (refine mj_r_pure rfl rfl ?_)
            refine mj_r_if_ne rfl (fun c6 => ?_) (fun c6 => ?_)
            · refine mj_r_pure rfl rfl ?_
              refine rr_get rfl rfl rfl ?_
              iterate 2 (refine mj_r_pure rfl rfl ?_)
              refine rx_iast rfl rfl (by first | rfl | assumption) (by omega) ?_
              refine mj_r_pure rfl rfl ?_
              refine rr_get rfl rfl rfl ?_
              iterate 2 (refine mj_r_pure rfl rfl ?_)
              refine rr_get rfl rfl rfl ?_
              refine mj_r_pure rfl rfl ?_
              refine rx_lald rfl rfl (by first | rfl | assumption) (by omega) ?_
              refine rx_last rfl rfl (by first | rfl | assumption) (by omega) ?_
              refine mj_r_pure rfl rfl ?_
              refine rr_get rfl rfl rfl ?_
              iterate 2 (refine mj_r_pure rfl rfl ?_)
              refine rx_last rfl rfl (by first | rfl | assumption) (by omega) ?_
              refine mj_r_pure rfl rfl ?_
              refine rr_get rfl rfl rfl ?_
              iterate 2 (refine mj_r_pure rfl rfl ?_)
              refine rr_get rfl rfl rfl ?_
              refine mj_r_pure rfl rfl ?_
              refine rx_iald rfl rfl (by first | rfl | assumption) (by omega) ?_
              refine mj_r_pure rfl rfl ?_
              refine rr_get rfl rfl rfl ?_
              refine mj_r_pure rfl rfl ?_
              refine rx_iald rfl rfl (by first | rfl | assumption) (by omega) ?_
              iterate 2 (refine mj_r_pure rfl rfl ?_)
              refine mj_r_icmp_ne rfl (fun c7 => ?_) (fun c7 => ?_)
              · refine mj_r_pure rfl rfl ?_
                refine rx_iast rfl rfl (by first | rfl | assumption) (by omega) ?_
                refine mj_r_pure rfl rfl ?_
                refine rr_get rfl rfl rfl ?_
                iterate 2 (refine mj_r_pure rfl rfl ?_)
                refine rx_iald rfl rfl (by first | rfl | assumption) (by omega) ?_
                iterate 2 (refine mj_r_pure rfl rfl ?_)
                refine rx_iast rfl rfl (by first | rfl | assumption) (by omega) ?_
                refine mj_r_pure rfl rfl ?_
                refine rr_get rfl rfl rfl ?_
                refine mj_r_pure rfl rfl ?_
                refine rx_iald rfl rfl (by first | rfl | assumption) (by omega) ?_
                refine mj_r_pure rfl rfl ?_
                refine rr_get rfl rfl rfl ?_
                refine mj_r_pure rfl rfl ?_
                refine rx_iald rfl rfl (by first | rfl | assumption) (by omega) ?_
                refine mj_r_pure rfl rfl ?_
                exact mj_r_iret rfl rfl rfl (rq (fin c2 c3 (nlt0_le c4) c5 _ (g1 (g2 c6) (if_neg c7))))
              · iterate 2 (refine mj_r_pure rfl rfl ?_)
                refine rx_iast rfl rfl (by first | rfl | assumption) (by omega) ?_
                refine mj_r_pure rfl rfl ?_
                refine rr_get rfl rfl rfl ?_
                iterate 2 (refine mj_r_pure rfl rfl ?_)
                refine rx_iald rfl rfl (by first | rfl | assumption) (by omega) ?_
                iterate 2 (refine mj_r_pure rfl rfl ?_)
                refine rx_iast rfl rfl (by first | rfl | assumption) (by omega) ?_
                refine mj_r_pure rfl rfl ?_
                refine rr_get rfl rfl rfl ?_
                refine mj_r_pure rfl rfl ?_
                refine rx_iald rfl rfl (by first | rfl | assumption) (by omega) ?_
                refine mj_r_pure rfl rfl ?_
                refine rr_get rfl rfl rfl ?_
                refine mj_r_pure rfl rfl ?_
                refine rx_iald rfl rfl (by first | rfl | assumption) (by omega) ?_
                refine mj_r_pure rfl rfl ?_
                exact mj_r_iret rfl rfl rfl (rq (fin c2 c3 (nlt0_le c4) c5 _ (g1 (g2 c6) (if_pos c7))))
            · refine mj_r_pure rfl rfl ?_
              refine rr_get rfl rfl rfl ?_
              iterate 2 (refine mj_r_pure rfl rfl ?_)
              refine rx_iast rfl rfl (by first | rfl | assumption) (by omega) ?_
              refine mj_r_pure rfl rfl ?_
              refine rr_get rfl rfl rfl ?_
              iterate 2 (refine mj_r_pure rfl rfl ?_)
              refine rr_get rfl rfl rfl ?_
              refine mj_r_pure rfl rfl ?_
              refine rx_lald rfl rfl (by first | rfl | assumption) (by omega) ?_
              refine rx_last rfl rfl (by first | rfl | assumption) (by omega) ?_
              iterate 2 (refine mj_r_pure rfl rfl ?_)
              refine rr_get rfl rfl rfl ?_
              iterate 2 (refine mj_r_pure rfl rfl ?_)
              refine rx_last rfl rfl (by first | rfl | assumption) (by omega) ?_
              refine mj_r_pure rfl rfl ?_
              refine rr_get rfl rfl rfl ?_
              iterate 2 (refine mj_r_pure rfl rfl ?_)
              refine rr_get rfl rfl rfl ?_
              refine mj_r_pure rfl rfl ?_
              refine rx_iald rfl rfl (by first | rfl | assumption) (by omega) ?_
              refine mj_r_pure rfl rfl ?_
              refine rr_get rfl rfl rfl ?_
              refine mj_r_pure rfl rfl ?_
              refine rx_iald rfl rfl (by first | rfl | assumption) (by omega) ?_
              iterate 2 (refine mj_r_pure rfl rfl ?_)
              refine mj_r_icmp_ne rfl (fun c8 => ?_) (fun c8 => ?_)
              · refine mj_r_pure rfl rfl ?_
                refine rx_iast rfl rfl (by first | rfl | assumption) (by omega) ?_
                refine mj_r_pure rfl rfl ?_
                refine rr_get rfl rfl rfl ?_
                iterate 2 (refine mj_r_pure rfl rfl ?_)
                refine rx_iald rfl rfl (by first | rfl | assumption) (by omega) ?_
                iterate 2 (refine mj_r_pure rfl rfl ?_)
                refine rx_iast rfl rfl (by first | rfl | assumption) (by omega) ?_
                refine mj_r_pure rfl rfl ?_
                refine rr_get rfl rfl rfl ?_
                refine mj_r_pure rfl rfl ?_
                refine rx_iald rfl rfl (by first | rfl | assumption) (by omega) ?_
                refine mj_r_pure rfl rfl ?_
                refine rr_get rfl rfl rfl ?_
                refine mj_r_pure rfl rfl ?_
                refine rx_iald rfl rfl (by first | rfl | assumption) (by omega) ?_
                refine mj_r_pure rfl rfl ?_
                exact mj_r_iret rfl rfl rfl (rq (fin c2 c3 (nlt0_le c4) c5 _ (g1 (g3 c6) (if_neg c8))))
              · iterate 2 (refine mj_r_pure rfl rfl ?_)
                refine rx_iast rfl rfl (by first | rfl | assumption) (by omega) ?_
                refine mj_r_pure rfl rfl ?_
                refine rr_get rfl rfl rfl ?_
                iterate 2 (refine mj_r_pure rfl rfl ?_)
                refine rx_iald rfl rfl (by first | rfl | assumption) (by omega) ?_
                iterate 2 (refine mj_r_pure rfl rfl ?_)
                refine rx_iast rfl rfl (by first | rfl | assumption) (by omega) ?_
                refine mj_r_pure rfl rfl ?_
                refine rr_get rfl rfl rfl ?_
                refine mj_r_pure rfl rfl ?_
                refine rx_iald rfl rfl (by first | rfl | assumption) (by omega) ?_
                refine mj_r_pure rfl rfl ?_
                refine rr_get rfl rfl rfl ?_
                refine mj_r_pure rfl rfl ?_
                refine rx_iald rfl rfl (by first | rfl | assumption) (by omega) ?_
                refine mj_r_pure rfl rfl ?_
                exact mj_r_iret rfl rfl rfl (rq (fin c2 c3 (nlt0_le c4) c5 _ (g1 (g3 c6) (if_pos c8))))
          · refine mj_r_pure rfl rfl ?_
            exact mj_r_iret rfl rfl rfl (rq (by refine if_neg (fun q => ?_); exact absurd q.2.2.2.2 c5))
  · iterate 2 (refine mj_r_pure rfl rfl ?_)
    refine mj_r_callV (ci := 10) (kc := 0) (ks := 0) rfl li_Ref_181 ck_Ref_isDispute iv_Ref_isDispute (by decide) rfl rfl (K_Ref_isDispute S _ nx) rfl rfl (Nat.le_of_ble_eq_true rfl) ?_
    rintro _ _ _ ⟨rfl, rfl, rfl⟩ _
    rw [bI_f a1]
    refine mj_r_if_eq rfl (fun c1 => ?_) (fun c1 => absurd c1 (fun q => q rfl))
    refine mj_r_pure rfl rfl ?_
    exact mj_r_iret rfl rfl rfl (rq (by refine if_neg (fun q => ?_); exact a1 q.1))
