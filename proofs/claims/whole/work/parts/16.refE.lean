/-! the reference: drafts, batches, claims, papers -/
theorem rq {P : Int32 × rf_S} {v : Int32} {S' : rf_S} {nx : Nat} (h : P = (v, S')) : some (Value.int v) = some (.int P.1) ∧ rf_h S' = rf_h P.2 ∧ nx = nx := by subst h; exact ⟨rfl, rfl, rfl⟩
abbrev rKi (M : mj_M) (as : List Value) (S : rf_S) (nx : Nat) (P : Int32 × rf_S) : Prop := rK M as S nx (some (.int P.1)) P.2
theorem lt0_nge {x : Int32} (h : x < 0) : ¬ 0 ≤ x := lt_nle h
theorem i9 : (9 : Int32).toInt = 9 := by decide +kernel
theorem r0_15 {a : Int32} (h1 : ¬ a < 0) (h2 : ¬ 15 < a) : ∃ j : Nat, j < 16 ∧ a = nI j := isN_nat (n := 16) (by omega) ⟨nlt0_le h1, by
  rw [Int32.lt_iff_toInt_lt] at h2 ⊢
  have e1 : (15 : Int32).toInt = 15 := by decide +kernel
  have e2 : (nI 16).toInt = 16 := by decide +kernel
  omega⟩
def sp_instruction (S : rf_S) (op a b c : Int32) : Int32 × rf_S :=
  if ((0 ≤ op ∧ op ≤ 9) ∧ (0 ≤ a ∧ a ≤ 15) ∧ 0 ≤ b ∧ b ≤ 15) ∧ ¬ S.1 4 0 = 24 then (S.1 4 0 + 1, sI (sA (sA (sA (sA S 0 (192 + (S.1 4 0).toNatClampNeg) op) 1 (192 + (S.1 4 0).toNatClampNeg) a) 2 (192 + (S.1 4 0).toNatClampNeg) b) 3 (192 + (S.1 4 0).toNatClampNeg) c) 4 (S.1 4 0 + 1)) else (-1, S)
set_option maxRecDepth 20000 in
set_option maxHeartbeats 4000000 in
theorem K_Ref_instruction (S : rf_S) (op a b c : Int32) (nx dr : Nat) (hdr : S.1 4 0 = nI dr) (h24 : dr ≤ 24) : rKi me_Ref_instruction [.int op, .int a, .int b, .int c] S nx (sp_instruction S op a b c) := by
  refine mj_K.of ok_Ref_instruction ck_Ref_instruction (Nat.le_of_ble_eq_true rfl) ?_
  refine mj_r_pure rfl rfl ?_
  refine mj_r_if_lt rfl (fun c1 => ?_) (fun c1 => ?_)
  · refine mj_r_pure rfl rfl ?_
    exact mj_r_iret rfl rfl rfl (rq (by refine if_neg (fun q => ?_); exact absurd q.1.1.1 (lt0_nge c1)))
  · iterate 2 (refine mj_r_pure rfl rfl ?_)
    refine mj_r_icmp_gt rfl (fun c2 => ?_) (fun c2 => ?_)
    · refine mj_r_pure rfl rfl ?_
      exact mj_r_iret rfl rfl rfl (rq (by refine if_neg (fun q => ?_); exact absurd q.1.1.2 (lt_nle c2)))
    · refine mj_r_pure rfl rfl ?_
      refine mj_r_if_lt rfl (fun c3 => ?_) (fun c3 => ?_)
      · refine mj_r_pure rfl rfl ?_
        exact mj_r_iret rfl rfl rfl (rq (by refine if_neg (fun q => ?_); exact absurd q.1.2.1.1 (lt0_nge c3)))
      · iterate 2 (refine mj_r_pure rfl rfl ?_)
        refine mj_r_icmp_gt rfl (fun c4 => ?_) (fun c4 => ?_)
        · refine mj_r_pure rfl rfl ?_
          exact mj_r_iret rfl rfl rfl (rq (by refine if_neg (fun q => ?_); exact absurd q.1.2.1.2 (lt_nle c4)))
        · refine mj_r_pure rfl rfl ?_
          refine mj_r_if_lt rfl (fun c5 => ?_) (fun c5 => ?_)
          · refine mj_r_pure rfl rfl ?_
            exact mj_r_iret rfl rfl rfl (rq (by refine if_neg (fun q => ?_); exact absurd q.1.2.2.1 (lt0_nge c5)))
          · iterate 2 (refine mj_r_pure rfl rfl ?_)
            refine mj_r_icmp_gt rfl (fun c6 => ?_) (fun c6 => ?_)
            · refine mj_r_pure rfl rfl ?_
              exact mj_r_iret rfl rfl rfl (rq (by refine if_neg (fun q => ?_); exact absurd q.1.2.2.2 (lt_nle c6)))
            · refine mj_r_pure rfl rfl ?_
              refine rr_get rfl rfl rfl ?_
              refine mj_r_pure rfl rfl ?_
              refine mj_r_icmp_ne rfl (fun c7 => ?_) (fun c7 => ?_)
              · have hlt : dr < 24 := by
                  rcases Nat.lt_or_ge dr 24 with q | q
                  · exact q
                  · exact absurd (hdr.trans (by rw [show dr = 24 by omega]; rfl)) c7
                iterate 2 (refine mj_r_pure rfl rfl ?_)
                refine rr_get rfl rfl rfl ?_
                iterate 3 (refine mj_r_pure rfl rfl ?_)
                refine rr_get rfl rfl rfl ?_
                iterate 2 (refine mj_r_pure rfl rfl ?_)
                refine rx_iast rfl rfl (ix_add (x := 192) rfl hdr) (by omega) ?_
                refine mj_r_pure rfl rfl ?_
                refine rr_get rfl rfl rfl ?_
                iterate 2 (refine mj_r_pure rfl rfl ?_)
                refine rx_iast rfl rfl (ix_add (x := 192) rfl hdr) (by omega) ?_
                refine mj_r_pure rfl rfl ?_
                refine rr_get rfl rfl rfl ?_
                iterate 2 (refine mj_r_pure rfl rfl ?_)
                refine rx_iast rfl rfl (ix_add (x := 192) rfl hdr) (by omega) ?_
                refine mj_r_pure rfl rfl ?_
                refine rr_get rfl rfl rfl ?_
                iterate 2 (refine mj_r_pure rfl rfl ?_)
                refine rx_iast rfl rfl (ix_add (x := 192) rfl hdr) (by omega) ?_
                iterate 2 (refine mj_r_pure rfl rfl ?_)
                refine rr_get rfl rfl rfl ?_
                iterate 2 (refine mj_r_pure rfl rfl ?_)
                refine rr_putI rfl rfl (by decide) ?_
                refine mj_r_pure rfl rfl ?_
                refine rr_get rfl rfl rfl ?_
                exact mj_r_iret rfl rfl rfl (rq (by rw [sp_instruction, if_pos ⟨⟨⟨nlt0_le c1, nlt_le c2⟩, ⟨nlt0_le c3, nlt_le c4⟩, nlt0_le c5, nlt_le c6⟩, c7⟩, hdr, nI_clamp (by omega)]; rw [← hdr]; rfl))
              · refine mj_r_pure rfl rfl ?_
                exact mj_r_iret rfl rfl rfl (rq (by refine if_neg (fun q => ?_); exact q.2 c7))
theorem nI_p0 (n : Nat) : nI n + 0 = nI n := Int32.add_zero _
/-- how many of the first n -/
def cnt (p : Nat → Bool) : Nat → Nat
  | 0 => 0
  | n + 1 => cnt p n + (if p n then 1 else 0)
theorem cnt_le (p : Nat → Bool) (n : Nat) : cnt p n ≤ n := by
  induction n with
  | zero => exact Nat.le_refl 0
  | succ n ih => unfold cnt; split <;> omega
def sp_isO (S : rf_S) (c : Int32) (d : Nat) : Bool := decide (S.1 23 d = c ∧ S.1 24 d = 0)
/-- how many disputes of a claim are open -/
def sp_open (S : rf_S) (c : Int32) (nd : Nat) : Nat := cnt (sp_isO S c) nd
set_option maxRecDepth 20000 in
set_option maxHeartbeats 4000000 in
theorem rl_openAt {Q : mj_post} {g : mj_H} {nx nd kc ks : Nat} {S : rf_S} {c : Int32} (hnd : S.1 21 0 = nI nd) (h80 : nd ≤ 80) (k : mj_W me_Ref_openAt 45 [(0, .ref 21), (1, .int c), (2, .int (nI (sp_open S c nd))), (3, .int (nI nd))] [] (rf_h S) g nx kc ks Q) : ∀ (d i : Nat), i + d = nd → mj_W me_Ref_openAt 4 [(0, .ref 21), (1, .int c), (2, .int (nI (cnt (sp_isO S c) i))), (3, .int (nI i))] [] (rf_h S) g nx kc ks Q := by
  intro d
  induction d with
  | zero =>
    intro i hi
    have e : i = nd := by omega
    subst e
    iterate 2 (refine mj_r_pure rfl rfl ?_)
    refine rr_get rfl rfl rfl ?_
    refine mj_r_icmp_ge rfl (fun c1 => ?_) (fun c1 => absurd c1 (fun q => q (by rw [hnd]; exact nI_le (Nat.le_refl _) (by omega))))
    exact k
  | succ d ih =>
    intro i hi
    have st : ∀ {z : Nat}, (if sp_isO S c i then 1 else 0) = z → cnt (sp_isO S c) (i + 1) = cnt (sp_isO S c) i + z := fun h => by rw [← h]; rfl
    iterate 2 (refine mj_r_pure rfl rfl ?_)
    refine rr_get rfl rfl rfl ?_
    refine mj_r_icmp_ge rfl (fun c1 => absurd c1 (by rw [hnd]; exact nI_ge (by omega) (by omega))) (fun c1 => ?_)
    iterate 2 (refine mj_r_pure rfl rfl ?_)
    refine rr_get rfl rfl rfl ?_
    refine mj_r_pure rfl rfl ?_
    refine rx_iald rfl rfl (by first | rfl | assumption) (by omega) ?_
    refine mj_r_pure rfl rfl ?_
    refine mj_r_icmp_ne rfl (fun c2 => ?_) (fun c2 => ?_)
    · iterate 5 (refine mj_r_pure rfl rfl ?_)
      have e := ih (i + 1) (by omega); rw [st (if_neg (by simp [sp_isO, c2]))] at e; rw [nI_1, nI_p0]; exact e
    · refine mj_r_pure rfl rfl ?_
      refine rr_get rfl rfl rfl ?_
      refine mj_r_pure rfl rfl ?_
      refine rx_iald rfl rfl (by first | rfl | assumption) (by omega) ?_
      refine mj_r_if_ne rfl (fun c3 => ?_) (fun c3 => ?_)
      · iterate 5 (refine mj_r_pure rfl rfl ?_)
        have e := ih (i + 1) (by omega); rw [st (if_neg (by simp [sp_isO, c3]))] at e; rw [nI_1, nI_p0]; exact e
      · iterate 6 (refine mj_r_pure rfl rfl ?_)
        have e := ih (i + 1) (by omega); rw [st (if_pos (by simp [sp_isO, c2, c3]))] at e; rw [nI_1, nI_1]; exact e
set_option maxRecDepth 20000 in
set_option maxHeartbeats 4000000 in
theorem K_Ref_openAt (S : rf_S) (c : Int32) (nx nd : Nat) (hnd : S.1 21 0 = nI nd) (h80 : nd ≤ 80) : rK me_Ref_openAt [.int c] S nx (some (.int (nI (sp_open S c nd)))) S := by
  refine mj_K.of ok_Ref_openAt ck_Ref_openAt (Nat.le_of_ble_eq_true rfl) ?_
  iterate 4 (refine mj_r_pure rfl rfl ?_)
  refine rl_openAt hnd h80 ?_ nd 0 (by omega)
  refine mj_r_pure rfl rfl ?_
  exact mj_r_iret rfl rfl rfl ⟨rfl, rfl, rfl⟩
def sp_claim (S : rf_S) (p b : Int32) (dg : Int64) : Int32 × rf_S :=
  if isN p 8 ∧ isN b (S.1 5 0) ∧ ¬ S.1 14 p.toNatClampNeg < 100 ∧ ¬ S.1 15 0 = 40 then (S.1 15 0 + 1 - 1, sI (sA (sA (sL (sA (sA (sA S 14 p.toNatClampNeg (S.1 14 p.toNatClampNeg - 100)) 16 (S.1 15 0).toNatClampNeg p) 17 (S.1 15 0).toNatClampNeg b) 18 (S.1 15 0).toNatClampNeg dg) 19 (S.1 15 0).toNatClampNeg 0) 20 (S.1 15 0).toNatClampNeg (S.1 13 0)) 15 (S.1 15 0 + 1)) else (-1, S)
set_option maxRecDepth 20000 in
set_option maxHeartbeats 4000000 in
theorem K_Ref_claim (S : rf_S) (p b : Int32) (dg : Int64) (nx nc : Nat) (hnc : S.1 15 0 = nI nc) (h40 : nc ≤ 40) : rKi me_Ref_claim [.int p, .int b, .long dg] S nx (sp_claim S p b dg) := by
  refine mj_K.of ok_Ref_claim ck_Ref_claim (Nat.le_of_ble_eq_true rfl) ?_
  by_cases a1 : isN p 8
  · obtain ⟨j, hj, rfl⟩ := isN_nat (n := 8) (by omega) a1
    have ej : (nI j).toNatClampNeg = j := nI_clamp (by omega)
    refine mj_r_pure rfl rfl ?_
    refine mj_r_callS (kc := 0) (ks := 0) rfl li_Ref_165 ck_Ref_isPlayer iv_Ref_isPlayer (by decide) rfl (K_Ref_isPlayer _ _ nx) rfl rfl (Nat.le_of_ble_eq_true rfl) ?_
    rintro _ _ _ ⟨rfl, rfl, rfl⟩ _
    rw [bI_t a1]
    refine mj_r_if_eq rfl (fun c1 => absurd c1 (by decide)) (fun c1 => ?_)
    iterate 2 (refine mj_r_pure rfl rfl ?_)
    refine mj_r_callV (ci := 10) (kc := 0) (ks := 0) rfl li_Ref_134 ck_Ref_isBatch iv_Ref_isBatch (by decide) rfl rfl (K_Ref_isBatch S b nx) rfl rfl (Nat.le_of_ble_eq_true rfl) ?_
    rintro _ _ _ ⟨rfl, rfl, rfl⟩ _
    refine mj_r_if_eq rfl (fun c2 => ?_) (fun c2 => ?_)
    · refine mj_r_pure rfl rfl ?_
      exact mj_r_iret rfl rfl rfl (rq (by refine if_neg (fun q => ?_); exact absurd q.2.1 (bI_0.mp c2)))
    · refine mj_r_pure rfl rfl ?_
      refine rr_get rfl rfl rfl ?_
      refine mj_r_pure rfl rfl ?_
      refine rx_iald rfl rfl (by first | rfl | assumption) (by omega) ?_
      refine mj_r_pure rfl rfl ?_
      refine mj_r_icmp_lt rfl (fun c3 => ?_) (fun c3 => ?_)
      · refine mj_r_pure rfl rfl ?_
        exact mj_r_iret rfl rfl rfl (rq (by refine if_neg (fun q => ?_); exact q.2.2.1 (by rw [ej]; exact c3)))
      · refine mj_r_pure rfl rfl ?_
        refine rr_get rfl rfl rfl ?_
        refine mj_r_pure rfl rfl ?_
        refine mj_r_icmp_ne rfl (fun c4 => ?_) (fun c4 => ?_)
        · have hlt : nc < 40 := by
            rcases Nat.lt_or_ge nc 40 with q | q
            · exact q
            · exact absurd (hnc.trans (by rw [show nc = 40 by omega]; rfl)) c4
          refine mj_r_pure rfl rfl ?_
          refine rr_get rfl rfl rfl ?_
          iterate 2 (refine mj_r_pure rfl rfl ?_)
          refine rx_iald rfl rfl (by first | rfl | assumption) (by omega) ?_
          iterate 2 (refine mj_r_pure rfl rfl ?_)
          refine rx_iast rfl rfl (by first | rfl | assumption) (by omega) ?_
          refine mj_r_pure rfl rfl ?_
          refine rr_get rfl rfl rfl ?_
          refine mj_r_pure rfl rfl ?_
          refine rr_get rfl rfl rfl ?_
          refine mj_r_pure rfl rfl ?_
          refine rx_iast rfl rfl hnc (by omega) ?_
          refine mj_r_pure rfl rfl ?_
          refine rr_get rfl rfl rfl ?_
          refine mj_r_pure rfl rfl ?_
          refine rr_get rfl rfl rfl ?_
          refine mj_r_pure rfl rfl ?_
          refine rx_iast rfl rfl hnc (by omega) ?_
          refine mj_r_pure rfl rfl ?_
          refine rr_get rfl rfl rfl ?_
          refine mj_r_pure rfl rfl ?_
          refine rr_get rfl rfl rfl ?_
          refine mj_r_pure rfl rfl ?_
          refine rx_last rfl rfl hnc (by omega) ?_
          refine mj_r_pure rfl rfl ?_
          refine rr_get rfl rfl rfl ?_
          refine mj_r_pure rfl rfl ?_
          refine rr_get rfl rfl rfl ?_
          refine mj_r_pure rfl rfl ?_
          refine rx_iast rfl rfl hnc (by omega) ?_
          refine mj_r_pure rfl rfl ?_
          refine rr_get rfl rfl rfl ?_
          refine mj_r_pure rfl rfl ?_
          refine rr_get rfl rfl rfl ?_
          refine mj_r_pure rfl rfl ?_
          refine rr_get rfl rfl rfl ?_
          refine rx_iast rfl rfl hnc (by omega) ?_
          iterate 2 (refine mj_r_pure rfl rfl ?_)
          refine rr_get rfl rfl rfl ?_
          iterate 2 (refine mj_r_pure rfl rfl ?_)
          refine rr_putI rfl rfl (by decide) ?_
          refine mj_r_pure rfl rfl ?_
          refine rr_get rfl rfl rfl ?_
          iterate 2 (refine mj_r_pure rfl rfl ?_)
          exact mj_r_iret rfl rfl rfl (rq (by rw [sp_claim, if_pos ⟨a1, Decidable.of_not_not (fun q => c2 (bI_f q)), by rw [ej]; exact c3, c4⟩, ej, hnc, nI_clamp (by omega)]; rw [← hnc]; rfl))
        · refine mj_r_pure rfl rfl ?_
          exact mj_r_iret rfl rfl rfl (rq (by refine if_neg (fun q => ?_); exact q.2.2.2 c4))
  · refine mj_r_pure rfl rfl ?_
    refine mj_r_callS (kc := 0) (ks := 0) rfl li_Ref_165 ck_Ref_isPlayer iv_Ref_isPlayer (by decide) rfl (K_Ref_isPlayer _ _ nx) rfl rfl (Nat.le_of_ble_eq_true rfl) ?_
    rintro _ _ _ ⟨rfl, rfl, rfl⟩ _
    rw [bI_f a1]
    refine mj_r_if_eq rfl (fun c1 => ?_) (fun c1 => absurd c1 (fun q => q rfl))
    refine mj_r_pure rfl rfl ?_
    exact mj_r_iret rfl rfl rfl (rq (by refine if_neg (fun q => ?_); exact a1 q.1))
def sp_purse (S : rf_S) (p : Int32) : Int32 := if isN p 8 then S.1 14 p.toNatClampNeg else -1
set_option maxRecDepth 20000 in
set_option maxHeartbeats 4000000 in
theorem K_Ref_purse (S : rf_S) (p : Int32) (nx : Nat) : rK me_Ref_purse [.int p] S nx (some (.int (sp_purse S p))) S := by
  refine mj_K.of ok_Ref_purse ck_Ref_purse (Nat.le_of_ble_eq_true rfl) ?_
  by_cases a1 : isN p 8
  · obtain ⟨j, hj, rfl⟩ := isN_nat (n := 8) (by omega) a1
    refine mj_r_pure rfl rfl ?_
    refine mj_r_callS (kc := 0) (ks := 0) rfl li_Ref_165 ck_Ref_isPlayer iv_Ref_isPlayer (by decide) rfl (K_Ref_isPlayer _ _ nx) rfl rfl (Nat.le_of_ble_eq_true rfl) ?_
    rintro _ _ _ ⟨rfl, rfl, rfl⟩ _
    rw [bI_t a1]
    refine mj_r_if_eq rfl (fun c1 => absurd c1 (by decide)) (fun c1 => ?_)
    refine mj_r_pure rfl rfl ?_
    refine rr_get rfl rfl rfl ?_
    refine mj_r_pure rfl rfl ?_
    refine rx_iald rfl rfl (by first | rfl | assumption) (by omega) ?_
    refine mj_r_pure rfl rfl ?_
    exact mj_r_iret rfl rfl rfl ⟨by rw [sp_purse, if_pos a1, nI_clamp (by omega)], rfl, rfl⟩
  · refine mj_r_pure rfl rfl ?_
    refine mj_r_callS (kc := 0) (ks := 0) rfl li_Ref_165 ck_Ref_isPlayer iv_Ref_isPlayer (by decide) rfl (K_Ref_isPlayer _ _ nx) rfl rfl (Nat.le_of_ble_eq_true rfl) ?_
    rintro _ _ _ ⟨rfl, rfl, rfl⟩ _
    rw [bI_f a1]
    refine mj_r_if_eq rfl (fun c1 => ?_) (fun c1 => absurd c1 (fun q => q rfl))
    refine mj_r_pure rfl rfl ?_
    exact mj_r_iret rfl rfl rfl ⟨by rw [sp_purse, if_neg a1], rfl, rfl⟩
def sp_paper (S : rf_S) (pl : Int32) (nd : Int64) : rf_S := sI (sJ (sI S 34 pl) 35 nd) 36 0
set_option maxRecDepth 20000 in
set_option maxHeartbeats 4000000 in
theorem K_Ref_paper (S : rf_S) (pl : Int32) (nd : Int64) (nx : Nat) : rK me_Ref_paper [.int pl, .long nd] S nx (some (.int 1)) (sp_paper S pl nd) := by
  refine mj_K.of ok_Ref_paper ck_Ref_paper (Nat.le_of_ble_eq_true rfl) ?_
  iterate 2 (refine mj_r_pure rfl rfl ?_)
  refine rr_putI rfl rfl (by decide) ?_
  iterate 2 (refine mj_r_pure rfl rfl ?_)
  refine rr_putJ rfl rfl (by decide) ?_
  iterate 2 (refine mj_r_pure rfl rfl ?_)
  refine rr_putI rfl rfl (by decide) ?_
  refine mj_r_pure rfl rfl ?_
  exact mj_r_iret rfl rfl rfl ⟨rfl, rfl, rfl⟩
