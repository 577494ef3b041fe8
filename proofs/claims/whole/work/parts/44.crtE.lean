/-! the class: a tick of the disputes -/
theorem turn_eq {S : rf_S} {nd d : Nat} {to : Nat → Int32} {md : Nat → Int64} (P : pT S nd to md) (hd : d < nd) (h0 : S.1 24 d = 0) : sp_turn (S.1 24 d) (S.1 25 d) (S.1 26 d) (to d) = S.1 30 d := by
  rw [(P d hd).1, sp_turn, if_pos h0]
section CTK
variable {h : mj_H} {S : rf_S} {od to : Nat → Int32} {md : Nat → Int64} {oc : Int32} {fc fd : Nat → Option Nat} {nx nc nd : Nat}
theorem cS.t32 (R : cS h S od to md oc fc fd nx nc nd) {d a ca p c : Nat} (hd : d < nd) (ha : fd d = some a) (hp : S.1 22 d = nI p) (hc : (S.1 23 d).toNatClampNeg = c) (hf : fc c = some ca) (v : Int32) : cS (mj_so h 3 a (oDis (nI p) ca (S.1 24 d) (S.1 25 d) (S.1 26 d) (S.2 27 d) (S.2 28 d) (to d) (md d) (S.1 31 d) v (S.1 33 d))) (sA S 32 d v) od to md oc fc fd nx nc nd := by
  refine (R.setD hd ha _).ext (fun j hj => rfl) (fun j hj => ?_)
  show oDis (S.1 22 j) ((fc (S.1 23 j).toNatClampNeg).getD 0) (S.1 24 j) (S.1 25 j) (S.1 26 j) (S.2 27 j) (S.2 28 j) (to j) (md j) (S.1 31 j) (upd (S.1 32) d v j) (S.1 33 j) = _
  by_cases e : j = d
  · subst e
    rw [ul_s, pk_us, hc, hp, hf]
    rfl
  · rw [ul_n e, pk_un e]
    rfl
theorem cS.t31 (R : cS h S od to md oc fc fd nx nc nd) {d a ca p c : Nat} (hd : d < nd) (ha : fd d = some a) (hp : S.1 22 d = nI p) (hc : (S.1 23 d).toNatClampNeg = c) (hf : fc c = some ca) (v : Int32) : cS (mj_so h 3 a (oDis (nI p) ca (S.1 24 d) (S.1 25 d) (S.1 26 d) (S.2 27 d) (S.2 28 d) (to d) (md d) v (S.1 32 d) (S.1 33 d))) (sA S 31 d v) od to md oc fc fd nx nc nd := by
  refine (R.setD hd ha _).ext (fun j hj => rfl) (fun j hj => ?_)
  show oDis (S.1 22 j) ((fc (S.1 23 j).toNatClampNeg).getD 0) (S.1 24 j) (S.1 25 j) (S.1 26 j) (S.2 27 j) (S.2 28 j) (to j) (md j) (upd (S.1 31) d v j) (S.1 32 j) (S.1 33 j) = _
  by_cases e : j = d
  · subst e
    rw [ul_s, pk_us, hc, hp, hf]
    rfl
  · rw [ul_n e, pk_un e]
    rfl
end CTK
theorem pK.t32 {S : rf_S} {nd d y : Nat} {v : Int32} (P : pK S nd nd) (hv : v = nI y) (hd : d < nd) : pK (sA S 32 d v) nd d ∧ (y < 30 → pK (sA S 32 d v) nd nd) := by
  refine ⟨fun i hi he h0 => ?_, fun hy i hi he h0 => ?_⟩
  · show ∃ a b : Nat, a < 30 ∧ b < 30 ∧ S.1 31 i = nI a ∧ upd (S.1 32) d v i = nI b
    rw [pk_un he]
    exact P i hi (by omega) h0
  · show ∃ a b : Nat, a < 30 ∧ b < 30 ∧ S.1 31 i = nI a ∧ upd (S.1 32) d v i = nI b
    obtain ⟨a, b, q1, q2, q3, q4⟩ := P i hi he h0
    by_cases e : i = d
    · subst e
      rw [pk_us]
      exact ⟨a, y, q1, hy, q3, hv⟩
    · rw [pk_un e]
      exact ⟨a, b, q1, q2, q3, q4⟩
theorem pK.t31 {S : rf_S} {nd d y : Nat} {v : Int32} (P : pK S nd nd) (hv : v = nI y) (hd : d < nd) : pK (sA S 31 d v) nd d ∧ (y < 30 → pK (sA S 31 d v) nd nd) := by
  refine ⟨fun i hi he h0 => ?_, fun hy i hi he h0 => ?_⟩
  · show ∃ a b : Nat, a < 30 ∧ b < 30 ∧ upd (S.1 31) d v i = nI a ∧ S.1 32 i = nI b
    rw [pk_un he]
    exact P i hi (by omega) h0
  · show ∃ a b : Nat, a < 30 ∧ b < 30 ∧ upd (S.1 31) d v i = nI a ∧ S.1 32 i = nI b
    obtain ⟨a, b, q1, q2, q3, q4⟩ := P i hi he h0
    by_cases e : i = d
    · subst e
      rw [pk_us]
      exact ⟨y, b, hy, q2, hv, q4⟩
    · rw [pk_un e]
      exact ⟨a, b, q1, q2, q3, q4⟩
set_option maxRecDepth 20000 in
set_option maxHeartbeats 4000000 in
theorem cl_count {Q : mj_post} {g h0 : mj_H} {S : rf_S} {to : Nat → Int32} {md : Nat → Int64} {fc fd : Nat → Option Nat} {nx nc nd T : Nat} (h80 : nd ≤ 80) (k : ∀ h od oc, cS h (sp_td S nd nd) od to md oc fc fd nx nc nd → pAll (sp_td S nd nd) nc nd T od oc to md → fC h0 h → Q.2 none h g nx) : ∀ (d i : Nat) (lv : List (Nat × Value)) (h : mj_H) (od : Nat → Int32) (oc : Int32), i + d = nd → mj_pk lv [0, 1] = some [(0, .ref 17), (1, .int (nI i))] → cS h (sp_td S nd i) od to md oc fc fd nx nc nd → pAll (sp_td S nd i) nc nd T od oc to md → fC h0 h → mj_W me_Court_countForDisputes 2 lv [] h g nx 0 0 Q := by
  intro d
  induction d with
  | zero =>
    intro i lv h od oc hi hlv R P hf
    have e : i = nd := by omega
    subst e
    refine mj_W.fewer _ hlv ?_
    iterate 2 (refine mj_r_pure rfl rfl ?_)
    refine mj_r_getf rfl rfl R.1 rfl ?_
    refine mj_r_icmp_ge rfl (fun c1 => ?_) (fun c1 => absurd c1 (fun q => q (nI_le (Nat.le_refl _) (by omega))))
    exact mj_r_ret rfl rfl ((k h od oc R P hf))
  | succ d ih =>
    intro i lv h od oc hi hlv R P hf
    refine mj_W.fewer _ hlv ?_
    have e := ih (i + 1)
    unfold sp_td at e
    generalize sp_td S nd i = U at R P e
    obtain ⟨PA, PK, PT, PU⟩ := P
    have hw := PA.1
    have hin : i < nd := by omega
    obtain ⟨a, c, ca, p, g1, g2, g3, g4, g5, g6, g7, g8, g9⟩ := R.dis hw hin
    by_cases ho : U.1 24 i = 0
    · obtain ⟨x, y, hx, hy, ex, ey⟩ := PK i hin (by omega) ho
      have et := turn_eq PT hin ho
      by_cases c1 : U.1 30 i = 1
      · have R1 := R.t32 hin g1 g5 g9 g6 (U.1 32 i + 1)
        have PK1 := PK.t32 (v := U.1 32 i + 1) (y := y + 1) (by rw [ey, nI_1]) hin
        have PA1 : pA (sA U 32 i (U.1 32 i + 1)) nc nd od oc := PA
        have PT1 : pT (sA U 32 i (U.1 32 i + 1)) nd to md := PT
        have PU1 : pU (sA U 32 i (U.1 32 i + 1)) nc T := PU
        by_cases c30 : y + 1 = 30
        · have etd : sp_td1 U i nd = sp_cw (sA U 32 i (U.1 32 i + 1)) i := by
            rw [sp_td1, if_pos ho, if_pos c1, if_pos (by rw [ey, nI_1, c30]; rfl)]
          rw [etd] at e
          iterate 2 (refine mj_r_pure rfl rfl ?_)
          refine mj_r_getf rfl rfl R.1 rfl ?_
          refine mj_r_icmp_ge rfl (fun z1 => absurd z1 (nI_ge (by omega) (by omega))) (fun z1 => ?_)
          iterate 2 (refine mj_r_pure rfl rfl ?_)
          refine mj_r_cV0 (ci := 2)  rfl li_Court_87 ck_Court_openDisputeAt iv_Court_openDisputeAt (by decide) ((K_Court_openAt_t _ nx i nd a _ _ _ _ _ _ _ _ _ _ _ _ _ _ _ fd R.1 R.2.2.2.1 h80 hin g1 g8 ho)) rfl rfl (Nat.le_of_ble_eq_true rfl) rfl R.1 ?_
          rintro _ _ _ ⟨rfl, rfl, rfl⟩ _
          iterate 2 (refine mj_r_pure rfl rfl ?_)
          refine mj_r_pure rfl rfl ?_
          refine mj_r_pure rfl rfl ?_
          refine mj_r_cV0 (ci := 3)  rfl li_Court_99 ck_Dispute_countForTurn iv_Dispute_countForTurn (by decide) ((K_Dispute_countForTurn _ a nx _ _ _ _ _ _ _ _ _ _ _ _ g8)) rfl rfl (Nat.le_of_ble_eq_true rfl) rfl g8 ?_
          rintro _ _ _ ⟨rfl, rfl, rfl⟩ _
          rw [if_pos (et.trans c1)]
          refine mj_r_pure rfl rfl ?_
          refine mj_r_getf rfl rfl so_self rfl ?_
          refine mj_r_pure rfl rfl ?_
          refine mj_r_icmp_lt rfl (fun z2 => ?_) (fun z2 => absurd z2 (fun q => q (by rw [ex]; exact nI_lt (a := x) (b := 30) (by omega) (by omega))))
          refine mj_r_pure rfl rfl ?_
          refine mj_r_getf rfl rfl so_self rfl ?_
          refine mj_r_pure rfl rfl ?_
          refine mj_r_icmp_lt rfl (fun z3 => absurd z3 ((by rw [ey, nI_1]; exact nI_nlt (a := y + 1) (b := 30) (by omega) (by omega)))) (fun z3 => ?_)
          iterate 2 (refine mj_r_pure rfl rfl ?_)
          refine mj_r_cV0 (ci := 2)  rfl li_Court_112 ck_Court_claimantWins iv_Court_claimantWins (by decide) ((K_cw R1 hw hin g1 g9)) rfl rfl (Nat.le_of_ble_eq_true rfl) rfl R1.1 ?_
          rintro _ h' _ ⟨rfl, rfl, hf', R2⟩ _
          iterate 2 (refine mj_r_pure rfl rfl ?_)
          rw [nI_1]; exact e _ h' _ _ (by omega) rfl R2 ⟨PA1.cw hin ho g9, PK1.1.cw (Or.inl rfl) hin, PT1.kp (sp_cw_kp _ _), PU1.cw (nd := nd) hw hin⟩ ((hf.so (Or.inr (Or.inr rfl))).tr hf')
        · have etd : sp_td1 U i nd = sA U 32 i (U.1 32 i + 1) := by
            rw [sp_td1, if_pos ho, if_pos c1, if_neg (fun q => by rw [ey, nI_1] at q; have := (nI_eq (a := y + 1) (b := 30) (by omega) (by omega)).mp q; omega)]
          rw [etd] at e
          iterate 2 (refine mj_r_pure rfl rfl ?_)
          refine mj_r_getf rfl rfl R.1 rfl ?_
          refine mj_r_icmp_ge rfl (fun z1 => absurd z1 (nI_ge (by omega) (by omega))) (fun z1 => ?_)
          iterate 2 (refine mj_r_pure rfl rfl ?_)
          refine mj_r_cV0 (ci := 2)  rfl li_Court_87 ck_Court_openDisputeAt iv_Court_openDisputeAt (by decide) ((K_Court_openAt_t _ nx i nd a _ _ _ _ _ _ _ _ _ _ _ _ _ _ _ fd R.1 R.2.2.2.1 h80 hin g1 g8 ho)) rfl rfl (Nat.le_of_ble_eq_true rfl) rfl R.1 ?_
          rintro _ _ _ ⟨rfl, rfl, rfl⟩ _
          iterate 2 (refine mj_r_pure rfl rfl ?_)
          refine mj_r_pure rfl rfl ?_
          refine mj_r_pure rfl rfl ?_
          refine mj_r_cV0 (ci := 3)  rfl li_Court_99 ck_Dispute_countForTurn iv_Dispute_countForTurn (by decide) ((K_Dispute_countForTurn _ a nx _ _ _ _ _ _ _ _ _ _ _ _ g8)) rfl rfl (Nat.le_of_ble_eq_true rfl) rfl g8 ?_
          rintro _ _ _ ⟨rfl, rfl, rfl⟩ _
          rw [if_pos (et.trans c1)]
          refine mj_r_pure rfl rfl ?_
          refine mj_r_getf rfl rfl so_self rfl ?_
          refine mj_r_pure rfl rfl ?_
          refine mj_r_icmp_lt rfl (fun z2 => ?_) (fun z2 => absurd z2 (fun q => q (by rw [ex]; exact nI_lt (a := x) (b := 30) (by omega) (by omega))))
          refine mj_r_pure rfl rfl ?_
          refine mj_r_getf rfl rfl so_self rfl ?_
          refine mj_r_pure rfl rfl ?_
          refine mj_r_icmp_lt rfl (fun z3 => ?_) (fun z3 => absurd z3 (fun q => q (by rw [ey, nI_1]; exact nI_lt (a := y + 1) (b := 30) (by omega) (by omega))))
          iterate 2 (refine mj_r_pure rfl rfl ?_)
          rw [nI_1]; exact e _ _ _ _ (by omega) rfl R1 ⟨PA1, PK1.2 (by omega), PT1, PU1⟩ (hf.so (Or.inr (Or.inr rfl)))
      · have R1 := R.t31 hin g1 g5 g9 g6 (U.1 31 i + 1)
        have PK1 := PK.t31 (v := U.1 31 i + 1) (y := x + 1) (by rw [ex, nI_1]) hin
        have PA1 : pA (sA U 31 i (U.1 31 i + 1)) nc nd od oc := PA
        have PT1 : pT (sA U 31 i (U.1 31 i + 1)) nd to md := PT
        have PU1 : pU (sA U 31 i (U.1 31 i + 1)) nc T := PU
        by_cases c30 : x + 1 = 30
        · have etd : sp_td1 U i nd = sp_dw (sA U 31 i (U.1 31 i + 1)) i nd := by
            rw [sp_td1, if_pos ho, if_neg c1, if_pos (by rw [ex, nI_1, c30]; rfl)]
          rw [etd] at e
          iterate 2 (refine mj_r_pure rfl rfl ?_)
          refine mj_r_getf rfl rfl R.1 rfl ?_
          refine mj_r_icmp_ge rfl (fun z1 => absurd z1 (nI_ge (by omega) (by omega))) (fun z1 => ?_)
          iterate 2 (refine mj_r_pure rfl rfl ?_)
          refine mj_r_cV0 (ci := 2)  rfl li_Court_87 ck_Court_openDisputeAt iv_Court_openDisputeAt (by decide) ((K_Court_openAt_t _ nx i nd a _ _ _ _ _ _ _ _ _ _ _ _ _ _ _ fd R.1 R.2.2.2.1 h80 hin g1 g8 ho)) rfl rfl (Nat.le_of_ble_eq_true rfl) rfl R.1 ?_
          rintro _ _ _ ⟨rfl, rfl, rfl⟩ _
          iterate 2 (refine mj_r_pure rfl rfl ?_)
          refine mj_r_pure rfl rfl ?_
          refine mj_r_pure rfl rfl ?_
          refine mj_r_cV0 (ci := 3)  rfl li_Court_99 ck_Dispute_countForTurn iv_Dispute_countForTurn (by decide) ((K_Dispute_countForTurn _ a nx _ _ _ _ _ _ _ _ _ _ _ _ g8)) rfl rfl (Nat.le_of_ble_eq_true rfl) rfl g8 ?_
          rintro _ _ _ ⟨rfl, rfl, rfl⟩ _
          rw [if_neg (fun q => c1 (et.symm.trans q))]
          refine mj_r_pure rfl rfl ?_
          refine mj_r_getf rfl rfl so_self rfl ?_
          refine mj_r_pure rfl rfl ?_
          refine mj_r_icmp_lt rfl (fun z2 => absurd z2 ((by rw [ex, nI_1]; exact nI_nlt (a := x + 1) (b := 30) (by omega) (by omega)))) (fun z2 => ?_)
          iterate 2 (refine mj_r_pure rfl rfl ?_)
          refine mj_r_cV0 (ci := 2)  rfl li_Court_105 ck_Court_disputerWins iv_Court_disputerWins (by decide) ((K_dw _ _ od to md oc fc fd nx nc nd i a c R1 hw hin g1 g9)) rfl rfl (Nat.le_of_ble_eq_true rfl) rfl R1.1 ?_
          rintro _ h' _ ⟨rfl, rfl, hf', R2⟩ _
          iterate 3 (refine mj_r_pure rfl rfl ?_)
          rw [nI_1]; exact e _ h' _ _ (by omega) rfl R2 ⟨PA1.dw hin ho g9, PK1.1.dw (Or.inl rfl) hin, PT1.kp (sp_dw_kp _ _ _), PU1.dw hw hin⟩ ((hf.so (Or.inr (Or.inr rfl))).tr hf')
        · have etd : sp_td1 U i nd = sA U 31 i (U.1 31 i + 1) := by
            rw [sp_td1, if_pos ho, if_neg c1, if_neg (fun q => by rw [ex, nI_1] at q; have := (nI_eq (a := x + 1) (b := 30) (by omega) (by omega)).mp q; omega)]
          rw [etd] at e
          iterate 2 (refine mj_r_pure rfl rfl ?_)
          refine mj_r_getf rfl rfl R.1 rfl ?_
          refine mj_r_icmp_ge rfl (fun z1 => absurd z1 (nI_ge (by omega) (by omega))) (fun z1 => ?_)
          iterate 2 (refine mj_r_pure rfl rfl ?_)
          refine mj_r_cV0 (ci := 2)  rfl li_Court_87 ck_Court_openDisputeAt iv_Court_openDisputeAt (by decide) ((K_Court_openAt_t _ nx i nd a _ _ _ _ _ _ _ _ _ _ _ _ _ _ _ fd R.1 R.2.2.2.1 h80 hin g1 g8 ho)) rfl rfl (Nat.le_of_ble_eq_true rfl) rfl R.1 ?_
          rintro _ _ _ ⟨rfl, rfl, rfl⟩ _
          iterate 2 (refine mj_r_pure rfl rfl ?_)
          refine mj_r_pure rfl rfl ?_
          refine mj_r_pure rfl rfl ?_
          refine mj_r_cV0 (ci := 3)  rfl li_Court_99 ck_Dispute_countForTurn iv_Dispute_countForTurn (by decide) ((K_Dispute_countForTurn _ a nx _ _ _ _ _ _ _ _ _ _ _ _ g8)) rfl rfl (Nat.le_of_ble_eq_true rfl) rfl g8 ?_
          rintro _ _ _ ⟨rfl, rfl, rfl⟩ _
          rw [if_neg (fun q => c1 (et.symm.trans q))]
          refine mj_r_pure rfl rfl ?_
          refine mj_r_getf rfl rfl so_self rfl ?_
          refine mj_r_pure rfl rfl ?_
          refine mj_r_icmp_lt rfl (fun z2 => ?_) (fun z2 => absurd z2 (fun q => q (by rw [ex, nI_1]; exact nI_lt (a := x + 1) (b := 30) (by omega) (by omega))))
          refine mj_r_pure rfl rfl ?_
          refine mj_r_getf rfl rfl so_self rfl ?_
          refine mj_r_pure rfl rfl ?_
          refine mj_r_icmp_lt rfl (fun z3 => ?_) (fun z3 => absurd z3 (fun q => q (by rw [ey]; exact nI_lt (a := y) (b := 30) (by omega) (by omega))))
          iterate 2 (refine mj_r_pure rfl rfl ?_)
          rw [nI_1]; exact e _ _ _ _ (by omega) rfl R1 ⟨PA1, PK1.2 (by omega), PT1, PU1⟩ (hf.so (Or.inr (Or.inr rfl)))
    · have etd : sp_td1 U i nd = U := by rw [sp_td1, if_neg ho]
      rw [etd] at e
      iterate 2 (refine mj_r_pure rfl rfl ?_)
      refine mj_r_getf rfl rfl R.1 rfl ?_
      refine mj_r_icmp_ge rfl (fun z1 => absurd z1 (nI_ge (by omega) (by omega))) (fun z1 => ?_)
      iterate 2 (refine mj_r_pure rfl rfl ?_)
      refine mj_r_cV0 (ci := 2)  rfl li_Court_87 ck_Court_openDisputeAt iv_Court_openDisputeAt (by decide) ((K_Court_openAt_f _ nx i nd a _ _ _ _ _ _ _ _ _ _ _ _ _ _ _ fd R.1 R.2.2.2.1 h80 hin g1 g8 ho)) rfl rfl (Nat.le_of_ble_eq_true rfl) rfl R.1 ?_
      rintro _ _ _ ⟨rfl, rfl, rfl⟩ _
      iterate 2 (refine mj_r_pure rfl rfl ?_)
      refine mj_r_pure rfl rfl ?_
      iterate 2 (refine mj_r_pure rfl rfl ?_)
      rw [nI_1]; exact e _ _ od oc (by omega) rfl R ⟨PA, PK, PT, PU⟩ hf
set_option maxRecDepth 20000 in
set_option maxHeartbeats 4000000 in
theorem K_count (h : mj_H) (S : rf_S) (od to : Nat → Int32) (md : Nat → Int64) (oc : Int32) (fc fd : Nat → Option Nat) (nx nc nd T : Nat) (R : cS h S od to md oc fc fd nx nc nd) (P : pAll S nc nd T od oc to md) : mj_K me_Court_countForDisputes [.ref 17] h nx 0 0 (fun r h' nx' => r = none ∧ nx = nx' ∧ fC h h' ∧ ∃ od' oc', cS h' (sp_td S nd nd) od' to md oc' fc fd nx nc nd ∧ pAll (sp_td S nd nd) nc nd T od' oc' to md) := by
  refine mj_K.of ok_Court_countForDisputes ck_Court_countForDisputes (Nat.le_of_ble_eq_true rfl) ?_
  iterate 2 (refine mj_r_pure rfl rfl ?_)
  refine cl_count P.1.1.2.1 (fun h' od' oc' R' P' hf => ?_) nd 0 _ h od oc (by omega) rfl R P (fC.rf h)
  exact ⟨rfl, rfl, hf, od', oc', R', P'⟩
