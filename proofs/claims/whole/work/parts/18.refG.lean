/-! the reference: ends of disputes, ticks -/
def kp (L : List Nat) (S T : rf_S) : Prop := (∀ q, q ∉ L → T.1 q = S.1 q) ∧ T.2 = S.2
theorem kp.rf {L : List Nat} (S : rf_S) : kp L S S := ⟨fun _ _ => rfl, rfl⟩
theorem kp.tr {L : List Nat} {S T U : rf_S} (h1 : kp L S T) (h2 : kp L T U) : kp L S U := ⟨fun q hq => (h2.1 q hq).trans (h1.1 q hq), h2.2.trans h1.2⟩
theorem kp.a {L : List Nat} {S T : rf_S} (h : kp L S T) {p : Nat} (hp : p ∈ L) (j : Nat) (v : Int32) : kp L S (sA T p j v) := ⟨fun q hq => by
  show cond (Nat.beq q p) _ (T.1 q) = _
  rw [rf_beq_ne (fun e => hq (by rw [e]; exact hp))]
  exact h.1 q hq, h.2⟩
theorem kp.i {L : List Nat} {S T : rf_S} (h : kp L S T) {p : Nat} (hp : p ∈ L) (v : Int32) : kp L S (sI T p v) := ⟨fun q hq => by
  show cond (Nat.beq q p) _ (T.1 q) = _
  rw [rf_beq_ne (fun e => hq (by rw [e]; exact hp))]
  exact h.1 q hq, h.2⟩
/-- claims and disputes are numbered, by players -/
def wf_D (S : rf_S) (nc nd : Nat) : Prop := S.1 21 0 = nI nd ∧ nd ≤ 80 ∧ S.1 15 0 = nI nc ∧ nc ≤ 40 ∧ (∀ d, d < nd → ∃ c, c < nc ∧ S.1 23 d = nI c) ∧ (∀ d, d < nd → ∃ p, p < 8 ∧ S.1 22 d = nI p) ∧ ∀ c, c < nc → ∃ p, p < 8 ∧ S.1 16 c = nI p
abbrev LT_ : List Nat := [13, 14, 19, 20, 24, 31, 32]
theorem wf_D.kp {S T : rf_S} {nc nd : Nat} (h : wf_D S nc nd) (k : kp LT_ S T) : wf_D T nc nd := by
  unfold wf_D at h ⊢
  rw [k.1 21 (by decide), k.1 15 (by decide), k.1 23 (by decide), k.1 22 (by decide), k.1 16 (by decide)]
  exact h
def sp_cw (S : rf_S) (d : Nat) : rf_S := sA (sA (sA S 24 d 1) 14 (S.1 16 (S.1 23 d).toNatClampNeg).toNatClampNeg (S.1 14 (S.1 16 (S.1 23 d).toNatClampNeg).toNatClampNeg + 50)) 20 (S.1 23 d).toNatClampNeg (S.1 13 0)
theorem sp_cw_kp (S : rf_S) (d : Nat) : kp LT_ S (sp_cw S d) := (((kp.rf S).a (by decide) _ _).a (by decide) _ _).a (by decide) _ _
set_option maxRecDepth 20000 in
set_option maxHeartbeats 4000000 in
theorem K_Ref_claimantWins (S : rf_S) (d nx nc nd : Nat) (h : wf_D S nc nd) (hd : d < nd) : rK me_Ref_claimantWins [.int (nI d)] S nx none (sp_cw S d) := by
  refine mj_K.of ok_Ref_claimantWins ck_Ref_claimantWins (Nat.le_of_ble_eq_true rfl) ?_
  obtain ⟨c, hc, hc2⟩ := h.2.2.2.2.1 d hd
  obtain ⟨p, hp, hp2⟩ := h.2.2.2.2.2.2 c hc
  have h80 := h.2.1
  have h40 := h.2.2.2.1
  unfold sp_cw
  rw [hc2, nI_clamp (by omega), hp2, nI_clamp (by omega)]
  refine mj_r_pure rfl rfl ?_
  refine rr_get rfl rfl rfl ?_
  iterate 2 (refine mj_r_pure rfl rfl ?_)
  refine rx_iast rfl rfl (by first | rfl | assumption) (by omega) ?_
  refine mj_r_pure rfl rfl ?_
  refine rr_get rfl rfl rfl ?_
  refine mj_r_pure rfl rfl ?_
  refine rr_get rfl rfl rfl ?_
  refine mj_r_pure rfl rfl ?_
  refine rr_get rfl rfl rfl ?_
  refine mj_r_pure rfl rfl ?_
  refine rx_iald rfl rfl (by first | rfl | assumption) (by omega) ?_
  refine rx_iald rfl rfl (by first | rfl | assumption) (by omega) ?_
  refine mj_r_pure rfl rfl ?_
  refine rx_iald rfl rfl (by first | rfl | assumption) (by omega) ?_
  iterate 2 (refine mj_r_pure rfl rfl ?_)
  refine rx_iast rfl rfl (by first | rfl | assumption) (by omega) ?_
  refine mj_r_pure rfl rfl ?_
  refine rr_get rfl rfl rfl ?_
  refine mj_r_pure rfl rfl ?_
  refine rr_get rfl rfl rfl ?_
  refine mj_r_pure rfl rfl ?_
  refine rx_iald rfl rfl (by first | rfl | assumption) (by omega) ?_
  refine mj_r_pure rfl rfl ?_
  refine rr_get rfl rfl rfl ?_
  refine rx_iast rfl rfl (by first | rfl | assumption) (by omega) ?_
  exact mj_r_ret rfl rfl ⟨rfl, rfl, rfl⟩
def sp_drop (c : Int32) (S : rf_S) : Nat → rf_S
  | 0 => S
  | n + 1 => if (sp_drop c S n).1 23 n = c ∧ (sp_drop c S n).1 24 n = 0 then sA (sA (sp_drop c S n) 24 n 3) 14 ((sp_drop c S n).1 22 n).toNatClampNeg ((sp_drop c S n).1 14 ((sp_drop c S n).1 22 n).toNatClampNeg + 50) else sp_drop c S n
theorem sp_drop_kp (c : Int32) (S : rf_S) (n : Nat) : kp [14, 24] S (sp_drop c S n) := by
  induction n with
  | zero => exact kp.rf S
  | succ n ih =>
    unfold sp_drop
    split
    · exact (ih.a (by decide) _ _).a (by decide) _ _
    · exact ih
theorem kp.mono {L L' : List Nat} {S T : rf_S} (h : kp L S T) (hl : ∀ q ∈ L, q ∈ L') : kp L' S T := ⟨fun q hq => h.1 q (fun z => hq (hl q z)), h.2⟩
def sp_dw0 (S : rf_S) (d : Nat) : rf_S := sA (sA (sA S 24 d 2) 14 (S.1 22 d).toNatClampNeg (S.1 14 (S.1 22 d).toNatClampNeg + 150)) 19 (S.1 23 d).toNatClampNeg 2
def sp_dw (S : rf_S) (d nd : Nat) : rf_S := sp_drop (S.1 23 d) (sp_dw0 S d) nd
theorem sp_dw_kp (S : rf_S) (d nd : Nat) : kp LT_ S (sp_dw S d nd) := ((((kp.rf S).a (by decide) _ _).a (by decide) _ _).a (by decide) _ _).tr ((sp_drop_kp _ _ _).mono (by decide))
set_option maxRecDepth 20000 in
set_option maxHeartbeats 4000000 in
theorem rl_drop {Q : mj_post} {g : mj_H} {nx nc nd kc ks d0 : Nat} {S : rf_S} {c : Int32} (h : wf_D S nc nd) (k : mj_W me_Ref_disputerWins 96 [(0, .ref 21), (1, .int (nI d0)), (2, .int c), (3, .int (nI nd))] [] (rf_h (sp_drop c S nd)) g nx kc ks Q) : ∀ (d i : Nat), i + d = nd → mj_W me_Ref_disputerWins 40 [(0, .ref 21), (1, .int (nI d0)), (2, .int c), (3, .int (nI i))] [] (rf_h (sp_drop c S i)) g nx kc ks Q := by
  have h80 := h.2.1
  intro d
  induction d with
  | zero =>
    intro i hi
    have e : i = nd := by omega
    subst e
    have hn : (sp_drop c S i).1 21 0 = nI i := by rw [(sp_drop_kp c S i).1 21 (by decide)]; exact h.1
    iterate 2 (refine mj_r_pure rfl rfl ?_)
    refine rr_get rfl rfl rfl ?_
    refine mj_r_icmp_ge rfl (fun c1 => ?_) (fun c1 => absurd c1 (fun q => q (by rw [hn]; exact nI_le (Nat.le_refl _) (by omega))))
    exact k
  | succ d ih =>
    intro i hi
    have hn : (sp_drop c S i).1 21 0 = nI nd := by rw [(sp_drop_kp c S i).1 21 (by decide)]; exact h.1
    obtain ⟨p, hp, hp2⟩ := h.2.2.2.2.2.1 i (by omega)
    have hp3 : (sp_drop c S i).1 22 i = nI p := by rw [(sp_drop_kp c S i).1 22 (by decide)]; exact hp2
    have e := ih (i + 1) (by omega)
    unfold sp_drop at e
    rw [hp3, nI_clamp (by omega)] at e
    iterate 2 (refine mj_r_pure rfl rfl ?_)
    refine rr_get rfl rfl rfl ?_
    refine mj_r_icmp_ge rfl (fun c1 => absurd c1 (by rw [hn]; exact nI_ge (by omega) (by omega))) (fun c1 => ?_)
    refine mj_r_pure rfl rfl ?_
    refine rr_get rfl rfl rfl ?_
    refine mj_r_pure rfl rfl ?_
    refine rx_iald rfl rfl (by first | rfl | assumption) (by omega) ?_
    refine mj_r_pure rfl rfl ?_
    refine mj_r_icmp_ne rfl (fun c2 => ?_) (fun c2 => ?_)
    · iterate 2 (refine mj_r_pure rfl rfl ?_)
      rw [if_neg (fun q => c2 q.1)] at e; rw [nI_1]; exact e
    · refine mj_r_pure rfl rfl ?_
      refine rr_get rfl rfl rfl ?_
      refine mj_r_pure rfl rfl ?_
      refine rx_iald rfl rfl (by first | rfl | assumption) (by omega) ?_
      refine mj_r_if_ne rfl (fun c3 => ?_) (fun c3 => ?_)
      · iterate 2 (refine mj_r_pure rfl rfl ?_)
        rw [if_neg (fun q => c3 q.2)] at e; rw [nI_1]; exact e
      · refine mj_r_pure rfl rfl ?_
        refine rr_get rfl rfl rfl ?_
        iterate 2 (refine mj_r_pure rfl rfl ?_)
        refine rx_iast rfl rfl (by first | rfl | assumption) (by omega) ?_
        refine mj_r_pure rfl rfl ?_
        refine rr_get rfl rfl rfl ?_
        refine mj_r_pure rfl rfl ?_
        refine rr_get rfl rfl rfl ?_
        refine mj_r_pure rfl rfl ?_
        refine rx_iald rfl rfl (by first | rfl | assumption) (by omega) ?_
        refine mj_r_pure rfl rfl ?_
        refine rx_iald rfl rfl (by first | rfl | assumption) (by omega) ?_
        iterate 2 (refine mj_r_pure rfl rfl ?_)
        refine rx_iast rfl rfl (by first | rfl | assumption) (by omega) ?_
        iterate 2 (refine mj_r_pure rfl rfl ?_)
        rw [if_pos ⟨c2, c3⟩] at e; rw [nI_1]; exact e
set_option maxRecDepth 20000 in
set_option maxHeartbeats 4000000 in
theorem K_Ref_disputerWins (S : rf_S) (d nx nc nd : Nat) (h : wf_D S nc nd) (hd : d < nd) : rK me_Ref_disputerWins [.int (nI d)] S nx none (sp_dw S d nd) := by
  refine mj_K.of ok_Ref_disputerWins ck_Ref_disputerWins (Nat.le_of_ble_eq_true rfl) ?_
  obtain ⟨c, hc, hc2⟩ := h.2.2.2.2.1 d hd
  obtain ⟨p, hp, hp2⟩ := h.2.2.2.2.2.1 d hd
  have h80 := h.2.1
  have h40 := h.2.2.2.1
  have e0 : sp_dw0 S d = sA (sA (sA S 24 d 2) 14 p (S.1 14 p + 150)) 19 c 2 := by unfold sp_dw0; rw [hc2, hp2, nI_clamp (by omega), nI_clamp (by omega)]
  have hw : wf_D (sp_dw0 S d) nc nd := h.kp ((((kp.rf S).a (by decide) _ _).a (by decide) _ _).a (by decide) _ _)
  refine mj_r_pure rfl rfl ?_
  refine rr_get rfl rfl rfl ?_
  refine mj_r_pure rfl rfl ?_
  refine rx_iald rfl rfl (by first | rfl | assumption) (by omega) ?_
  iterate 2 (refine mj_r_pure rfl rfl ?_)
  refine rr_get rfl rfl rfl ?_
  iterate 2 (refine mj_r_pure rfl rfl ?_)
  refine rx_iast rfl rfl (by first | rfl | assumption) (by omega) ?_
  refine mj_r_pure rfl rfl ?_
  refine rr_get rfl rfl rfl ?_
  refine mj_r_pure rfl rfl ?_
  refine rr_get rfl rfl rfl ?_
  refine mj_r_pure rfl rfl ?_
  refine rx_iald rfl rfl (by first | rfl | assumption) (by omega) ?_
  refine mj_r_pure rfl rfl ?_
  refine rx_iald rfl rfl (by first | rfl | assumption) (by omega) ?_
  iterate 2 (refine mj_r_pure rfl rfl ?_)
  refine rx_iast rfl rfl (by first | rfl | assumption) (by omega) ?_
  refine mj_r_pure rfl rfl ?_
  refine rr_get rfl rfl rfl ?_
  iterate 2 (refine mj_r_pure rfl rfl ?_)
  refine rx_iast rfl rfl (by first | rfl | assumption) (by omega) ?_
  iterate 2 (refine mj_r_pure rfl rfl ?_)
  skip
  have e1 : sp_drop (S.1 23 d) (sp_dw0 S d) 0 = sA (sA (sA S 24 d 2) 14 p (S.1 14 p + 150)) 19 c 2 := e0
  refine (show mj_W me_Ref_disputerWins 40 [(0, .ref 21), (1, .int (nI d)), (2, .int (S.1 23 d)), (3, .int (nI 0))] [] (rf_h (sA (sA (sA S 24 d 2) 14 p (S.1 14 p + 150)) 19 c 2)) mj_0 nx 0 0 _ from ?_)
  rw [← e1]
  refine rl_drop hw ?_ nd 0 (by omega)
  exact mj_r_ret rfl rfl ⟨rfl, rfl, rfl⟩
