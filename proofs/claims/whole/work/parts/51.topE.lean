/-! the class: prove; what stays of claims -/
set_option maxRecDepth 20000 in
set_option maxHeartbeats 4000000 in
theorem K_Top_prove (h : mj_H) (S : rf_S) (nx nb dr nc nd T n : Nat) (d : Int32) (hb : iB h S nx nb dr) (hwO : wf_O S) (hp : iPa h S n) (hi : iC h S nx nc nd T) (h4 : p4 nb S nc nd) : cKc me_Top_prove [.ref 0, .int d] h nx nc nd T (sp_prove S d nd n) := by
  refine mj_K.of ok_Top_prove ck_Top_prove (Nat.le_of_ble_eq_true rfl) ?_
  obtain ⟨od, to, md, oc, fc, fd, R, P⟩ := id hi
  obtain ⟨h8, hnb, hdr, pa, la, fb, ht, hfb, hd, hbs⟩ := hb
  have hw := P.1.1
  have hnd := hw.1
  have h80 := hw.2.1
  by_cases a1 : isN d (S.1 21 0)
  · obtain ⟨j, hj, rfl⟩ := isN_nat (n := nd) (by omega) (by rw [← hnd]; exact a1)
    have ej : (nI j).toNatClampNeg = j := nI_clamp (by omega)
    obtain ⟨a, c, ca, p, g1, g2, g3, g4, g5, g6, g7, g8, g9⟩ := R.dis hw hj
    unfold Cof at g7
    have hturn := turn_t P.2.2.1 hj 2 m1_2
    by_cases c0 : S.1 24 j = 0 ∧ S.1 30 j = 2
    · have esp : sp_prove S (nI j) nd n = sp_prove1 S j nd n := by rw [sp_prove, ej, if_pos ⟨a1, c0⟩]
      rw [esp]
      obtain ⟨bb, hbb, e17⟩ := h4.2 c g2
      have eb : (nI bb).toNatClampNeg = bb := nI_clamp (by omega)
      obtain ⟨b9, pp, l, fa, ln, F, hf, k1, k2, k3, k4, k5, k6, k7, -⟩ := hbs bb hbb
      have R1 : cS (mj_so h 3 a (oDis (nI p) ca (S.1 24 j) (S.1 25 j) (S.1 26 j) (S.2 27 j) (S.2 28 j) (to j) (md j) (S.1 31 j) (S.1 32 j) (S.1 33 j + 1))) (sA S 33 j (S.1 33 j + 1)) od to md oc fc fd nx nc nd := by
        refine (R.setD hj g1 _).ext (fun i hi => rfl) (fun i hi => ?_)
        show oDis (S.1 22 i) ((fc (S.1 23 i).toNatClampNeg).getD 0) (S.1 24 i) (S.1 25 i) (S.1 26 i) (S.2 27 i) (S.2 28 i) (to i) (md i) (S.1 31 i) (S.1 32 i) (upd (S.1 33) j (S.1 33 j + 1) i) = _
        by_cases e : i = j
        · subst e
          rw [ul_s, pk_us, g9, g5, g6]
          rfl
        · rw [ul_n e, pk_un e]
          rfl
      have P1 : pAll (sA S 33 j (S.1 33 j + 1)) nc nd T od oc to md := P
      have hw1 : wf_D (sA S 33 j (S.1 33 j + 1)) nc nd := hw
      have ej1 : sp_prove1 S j nd n = if sp_judge S bb (S.2 27 j) (S.2 28 j) n = 0 then (1, sp_cw (sA S 33 j (S.1 33 j + 1)) j) else (0, sp_dw (sA S 33 j (S.1 33 j + 1)) j nd) := by
        rw [sp_prove1, g9, e17, eb]
      rw [ej1]
      refine mj_r_pure rfl rfl ?_
      refine mj_r_getf rfl rfl ht rfl ?_
      refine mj_r_pure rfl rfl ?_
      refine mj_r_cV0 (ci := 2)  rfl li_Top_122 ck_Court_disputeAt iv_Court_disputeAt (by decide) ((K_Court_disputeAt_t _ nx j nd a _ _ _ fd R.1 R.2.2.2.1 h80 hj g1)) rfl rfl (Nat.le_of_ble_eq_true rfl) rfl R.1 ?_
      rintro _ h9 _ ⟨rfl, rfl, rfl⟩ _
      iterate 2 (refine mj_r_pure rfl rfl ?_)
      refine mj_r_pure rfl rfl ?_
      refine mj_r_pure rfl rfl ?_
      refine mj_r_cV0 (ci := 3)  rfl li_Top_126 ck_Dispute_turn iv_Dispute_turn (by decide) ((K_Dispute_turn h9 a nx _ _ _ _ _ _ _ _ _ _ _ _ g8)) rfl rfl (Nat.le_of_ble_eq_true rfl) rfl g8 ?_
      rintro _ h9 _ ⟨rfl, rfl, rfl⟩ _
      refine mj_r_pure rfl rfl ?_
      refine mj_r_icmp_eq rfl (fun z1 => ?_) (fun z1 => absurd z1 (fun q => q (hturn.mpr c0)))
      iterate 2 (refine mj_r_pure rfl rfl ?_)
      refine mj_r_getf rfl rfl g8 rfl ?_
      refine mj_r_getf rfl rfl g7 rfl ?_
      rw [e17]
      refine mj_r_cV0 (ci := 9)  rfl li_Top_94 ck_Top_batchAt iv_Top_batchAt (by decide) ((K_Top_batchAt_t h9 nx nb pa bb b9 fb h8 ht hfb hbb hf)) rfl rfl (Nat.le_of_ble_eq_true rfl) rfl ht ?_
      rintro _ h9 _ ⟨rfl, rfl, rfl⟩ _
      iterate 2 (refine mj_r_pure rfl rfl ?_)
      refine mj_r_pure rfl rfl ?_
      iterate 2 (refine mj_r_pure rfl rfl ?_)
      refine mj_r_getf rfl rfl g8 rfl ?_
      iterate 2 (refine mj_r_pure rfl rfl ?_)
      refine mj_r_putf rfl rfl g8 rfl (Or.inl rfl) rfl rfl ?_
      refine mj_r_pure rfl rfl ?_
      refine mj_r_getf rfl rfl ht rfl ?_
      refine mj_r_pure rfl rfl ?_
      refine mj_r_getf rfl rfl k2 rfl ?_
      refine mj_r_pure rfl rfl ?_
      refine mj_r_getf rfl rfl so_self rfl ?_
      refine mj_r_pure rfl rfl ?_
      refine mj_r_getf rfl rfl so_self rfl ?_
      refine mj_r_cV0 (ci := 7)  rfl li_Top_186 ck_Paper_verdict iv_Paper_verdict (by decide) ((K_Paper_verdict (mj_so h9 3 a (oDis (nI p) ca (S.1 24 j) (S.1 25 j) (S.1 26 j) (S.2 27 j) (S.2 28 j) (to j) (md j) (S.1 31 j) (S.1 32 j) (S.1 33 j + 1))) S n nx pp ln bb _ _ hp k7.pr hwO)) rfl rfl (Nat.le_of_ble_eq_true rfl) rfl hp.2.1 ?_
      rintro _ _ _ ⟨rfl, rfl, rfl⟩ _
      refine mj_r_if_ne rfl (fun z2 => ?_) (fun z2 => ?_)
      · refine mj_r_pure rfl rfl ?_
        refine mj_r_getf rfl rfl ht rfl ?_
        refine mj_r_pure rfl rfl ?_
        refine mj_r_cV0 (ci := 2)  rfl li_Top_194 ck_Court_disputerWins iv_Court_disputerWins (by decide) ((K_dw _ _ od to md oc fc fd nx nc nd j a c R1 hw1 hj g1 g9)) rfl rfl (Nat.le_of_ble_eq_true rfl) rfl R1.1 ?_
        rintro _ h2 _ ⟨rfl, rfl, hf2, R2⟩ _
        refine mj_r_pure rfl rfl ?_
        exact mj_r_iret rfl rfl rfl ((cc (by rw [if_neg z2]) (((fC.rf h9).so (Or.inr (Or.inr rfl))).tr hf2) ⟨_, to, md, _, fc, fd, R2, ⟨P1.1.dw hj c0.1 g9, P1.2.1.dw (Or.inr rfl) hj, P1.2.2.1.kp (sp_dw_kp _ _ _), P1.2.2.2.dw hw1 hj⟩⟩))
      · refine mj_r_pure rfl rfl ?_
        refine mj_r_getf rfl rfl ht rfl ?_
        refine mj_r_pure rfl rfl ?_
        refine mj_r_cV0 (ci := 2)  rfl li_Top_190 ck_Court_claimantWins iv_Court_claimantWins (by decide) ((K_cw R1 hw1 hj g1 g9)) rfl rfl (Nat.le_of_ble_eq_true rfl) rfl R1.1 ?_
        rintro _ h2 _ ⟨rfl, rfl, hf2, R2⟩ _
        refine mj_r_pure rfl rfl ?_
        exact mj_r_iret rfl rfl rfl ((cc (by rw [if_pos z2]) (((fC.rf h9).so (Or.inr (Or.inr rfl))).tr hf2) ⟨_, to, md, _, fc, fd, R2, ⟨P1.1.cw hj c0.1 g9, P1.2.1.cw (Or.inr rfl) hj, P1.2.2.1.kp (sp_cw_kp _ _), P1.2.2.2.cw (nd := nd) hw1 hj⟩⟩))
    · rw [show sp_prove S (nI j) nd n = (-1, S) by rw [sp_prove, ej, if_neg (fun q => c0 q.2)]]
      refine mj_r_pure rfl rfl ?_
      refine mj_r_getf rfl rfl ht rfl ?_
      refine mj_r_pure rfl rfl ?_
      refine mj_r_cV0 (ci := 2)  rfl li_Top_122 ck_Court_disputeAt iv_Court_disputeAt (by decide) ((K_Court_disputeAt_t _ nx j nd a _ _ _ fd R.1 R.2.2.2.1 h80 hj g1)) rfl rfl (Nat.le_of_ble_eq_true rfl) rfl R.1 ?_
      rintro _ _ _ ⟨rfl, rfl, rfl⟩ _
      iterate 2 (refine mj_r_pure rfl rfl ?_)
      refine mj_r_pure rfl rfl ?_
      refine mj_r_pure rfl rfl ?_
      refine mj_r_cV0 (ci := 3)  rfl li_Top_126 ck_Dispute_turn iv_Dispute_turn (by decide) ((K_Dispute_turn _ a nx _ _ _ _ _ _ _ _ _ _ _ _ g8)) rfl rfl (Nat.le_of_ble_eq_true rfl) rfl g8 ?_
      rintro _ _ _ ⟨rfl, rfl, rfl⟩ _
      refine mj_r_pure rfl rfl ?_
      refine mj_r_icmp_eq rfl (fun z1 => absurd z1 (fun q => c0 (hturn.mp q))) (fun z1 => ?_)
      refine mj_r_pure rfl rfl ?_
      exact mj_r_iret rfl rfl rfl ((cc rfl (fC.rf _) hi))
  · rw [show sp_prove S d nd n = (-1, S) by rw [sp_prove, if_neg (fun q => a1 q.1)]]
    refine mj_r_pure rfl rfl ?_
    refine mj_r_getf rfl rfl ht rfl ?_
    refine mj_r_pure rfl rfl ?_
    refine mj_r_cV0 (ci := 2)  rfl li_Top_122 ck_Court_disputeAt iv_Court_disputeAt (by decide) ((K_Court_disputeAt_f _ nx _ _ _ _ d R.1 (by rw [← hnd]; exact a1))) rfl rfl (Nat.le_of_ble_eq_true rfl) rfl R.1 ?_
    rintro _ _ _ ⟨rfl, rfl, rfl⟩ _
    iterate 2 (refine mj_r_pure rfl rfl ?_)
    refine mj_r_pure rfl rfl ?_
    refine mj_r_pure rfl rfl ?_
    exact mj_r_iret rfl rfl rfl ((cc rfl (fC.rf _) hi))
/-- disputes only end -/
def mO (S S' : rf_S) : Prop := S'.1 23 = S.1 23 ∧ S'.1 17 = S.1 17 ∧ ∀ d, S'.1 24 d = 0 → S.1 24 d = 0
theorem mO.rf (S : rf_S) : mO S S := ⟨rfl, rfl, fun _ h => h⟩
theorem mO.tr {S T U : rf_S} (a : mO S T) (b : mO T U) : mO S U := ⟨b.1.trans a.1, b.2.1.trans a.2.1, fun d h => a.2.2 d (b.2.2 d h)⟩
theorem p4.mo {nb nc nd : Nat} {S S' : rf_S} (P : p4 nb S nc nd) (m : mO S S') : p4 nb S' nc nd := by
  refine ⟨fun c hc => Nat.le_trans (cnt_mono (fun i hi h => ?_)) (P.1 c hc), by rw [m.2.1]; exact P.2⟩
  have h := of_decide_eq_true h
  rw [m.1] at h
  exact decide_eq_true ⟨h.1, m.2.2 i h.2⟩
theorem mO.cw (S : rf_S) (d : Nat) : mO S (sp_cw S d) := ⟨rfl, rfl, fun i h => by
  have h : upd (S.1 24) d 1 i = 0 := h
  by_cases e : i = d
  · rw [e, pk_us] at h; exact absurd h (by decide)
  · rw [pk_un e] at h; exact h⟩
theorem mO.dw (S : rf_S) (d nd : Nat) : mO S (sp_dw S d nd) := ⟨(sp_dw_kp S d nd).1 23 (by decide), (sp_dw_kp S d nd).1 17 (by decide), fun i h => by
  unfold sp_dw at h
  rw [drop_24] at h
  split at h
  · exact absurd h (by decide)
  · have h : upd (S.1 24) d 2 i = 0 := h
    by_cases e : i = d
    · rw [e, pk_us] at h; exact absurd h (by decide)
    · rw [pk_un e] at h; exact h⟩
theorem mO.td1 (S : rf_S) (d nd : Nat) : mO S (sp_td1 S d nd) := by
  unfold sp_td1
  split
  · split
    · split
      · exact mO.tr (T := sA S 32 d (S.1 32 d + 1)) ⟨rfl, rfl, fun _ h => h⟩ (mO.cw _ _)
      · exact ⟨rfl, rfl, fun _ h => h⟩
    · split
      · exact mO.tr (T := sA S 31 d (S.1 31 d + 1)) ⟨rfl, rfl, fun _ h => h⟩ (mO.dw _ _ _)
      · exact ⟨rfl, rfl, fun _ h => h⟩
  · exact mO.rf S
theorem mO.td (S : rf_S) (nd n : Nat) : mO S (sp_td S nd n) := by
  induction n with
  | zero => exact mO.rf S
  | succ n ih => exact ih.tr (mO.td1 _ _ _)
theorem mO.tc (S : rf_S) (nd n : Nat) : mO S (sp_tc S nd n) := by
  induction n with
  | zero => exact mO.rf S
  | succ n ih =>
    refine ih.tr ?_
    show mO _ (sp_tc1 _ n nd)
    unfold sp_tc1
    split
    · exact ⟨rfl, rfl, fun _ h => h⟩
    · exact mO.rf _
theorem mO.tN (S : rf_S) (nc nd n : Nat) : mO S (sp_tN S nc nd n) := by
  induction n with
  | zero => exact mO.rf S
  | succ n ih =>
    refine ih.tr ?_
    exact (mO.tr (T := sI (sp_tN S nc nd n) 13 ((sp_tN S nc nd n).1 13 0 + 1)) ⟨rfl, rfl, fun _ h => h⟩ (mO.td _ _ _)).tr (mO.tc _ _ _)
theorem mO.tick (S : rf_S) (n : Int32) (nc nd : Nat) : mO S (sp_tick S n nc nd).2 := by
  unfold sp_tick
  split
  · exact mO.tN _ _ _ _
  · exact mO.rf S
theorem mO.tell (S : rf_S) (d : Nat) (dg : Int64) : mO S (sp_tell S d dg).2 := by
  unfold sp_tell
  split
  · exact ⟨rfl, rfl, fun _ h => h⟩
  · exact mO.rf S
theorem mO.choose (S : rf_S) (d o : Int32) : mO S (sp_choose S d o).2 := by
  unfold sp_choose
  split
  · show mO S (sp_choose1 S d.toNatClampNeg o)
    unfold sp_choose1 sp_ch2
    by_cases c : o = 0
    · rw [if_pos c]; exact ⟨rfl, rfl, fun _ h => h⟩
    · rw [if_neg c]; exact ⟨rfl, rfl, fun _ h => h⟩
  · exact mO.rf S
theorem mO.prove (S : rf_S) (d : Int32) (nd n : Nat) : mO S (sp_prove S d nd n).2 := by
  unfold sp_prove
  split
  · show mO S (sp_prove1 S d.toNatClampNeg nd n).2
    unfold sp_prove1
    split
    · exact mO.tr (T := sA S 33 d.toNatClampNeg (S.1 33 d.toNatClampNeg + 1)) ⟨rfl, rfl, fun _ h => h⟩ (mO.cw _ _)
    · exact mO.tr (T := sA S 33 d.toNatClampNeg (S.1 33 d.toNatClampNeg + 1)) ⟨rfl, rfl, fun _ h => h⟩ (mO.dw _ _ _)
  · exact mO.rf S
