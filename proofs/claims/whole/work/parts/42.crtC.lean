/-! the class: ends of disputes -/
/-- only the court changed -/
def fC (h h' : mj_H) : Prop := (∀ c, c ≠ 1 → c ≠ 2 → c ≠ 3 → h'.1 c = h.1 c) ∧ (∀ q, q ≠ 18 → h'.2.1 q = h.2.1 q) ∧ h'.2.2.1 = h.2.2.1 ∧ ∀ c, c ≠ 1 → c ≠ 3 → h'.2.2.2 c = h.2.2.2 c
theorem fC.rf (h : mj_H) : fC h h := ⟨fun _ _ _ _ => rfl, fun _ _ => rfl, rfl, fun _ _ _ => rfl⟩
theorem fC.tr {h h' h'' : mj_H} (a : fC h h') (b : fC h' h'') : fC h h'' := ⟨fun c h1 h2 h3 => (b.1 c h1 h2 h3).trans (a.1 c h1 h2 h3), fun q hq => (b.2.1 q hq).trans (a.2.1 q hq), b.2.2.1.trans a.2.2.1, fun c h1 h3 => (b.2.2.2 c h1 h3).trans (a.2.2.2 c h1 h3)⟩
theorem fC.so {h h' : mj_H} (a : fC h h') {ci q : Nat} {fs : List Value} (hc : ci = 1 ∨ ci = 2 ∨ ci = 3) : fC h (mj_so h' ci q fs) := ⟨fun c h1 h2 h3 => by
  rw [← a.1 c h1 h2 h3]
  funext z
  show (if c = ci then _ else h'.1 c z) = h'.1 c z
  rw [if_neg (by omega)], a.2.1, a.2.2.1, a.2.2.2⟩
theorem fC.si {h h' : mj_H} (a : fC h h') {n : Nat} {f : Nat → Int32} : fC h (mj_si h' 18 n f) := ⟨a.1, fun q hq => (si_ne hq).trans (a.2.1 q hq), a.2.2.1, a.2.2.2⟩
theorem fC.sr {h h' : mj_H} (a : fC h h') {ci q n : Nat} {f : Nat → Option Nat} (hc : ci = 1 ∨ ci = 3) : fC h (mj_sr h' ci q n f) := ⟨a.1, a.2.1, a.2.2.1, fun c h1 h3 => by
  rw [← a.2.2.2 c h1 h3]
  funext z
  show (if c = ci then _ else h'.2.2.2 c z) = h'.2.2.2 c z
  rw [if_neg (by omega)]⟩
section CDW
variable {h : mj_H} {S : rf_S} {od to : Nat → Int32} {md : Nat → Int64} {oc : Int32} {fc fd : Nat → Option Nat} {nx nc nd : Nat}
theorem cS.dis (R : cS h S od to md oc fc fd nx nc nd) (hw : wf_D S nc nd) {d : Nat} (hd : d < nd) : ∃ a c ca p, fd d = some a ∧ c < nc ∧ S.1 23 d = nI c ∧ p < 8 ∧ S.1 22 d = nI p ∧ fc c = some ca ∧ h.1 1 ca = some (Cof S od c) ∧ h.1 3 a = some (oDis (nI p) ca (S.1 24 d) (S.1 25 d) (S.1 26 d) (S.2 27 d) (S.2 28 d) (to d) (md d) (S.1 31 d) (S.1 32 d) (S.1 33 d)) ∧ (S.1 23 d).toNatClampNeg = c := by
  obtain ⟨a, a1, a2⟩ := R.d hd
  obtain ⟨c, c1, c2⟩ := hw.2.2.2.2.1 d hd
  obtain ⟨p, p1, p2⟩ := hw.2.2.2.2.2.1 d hd
  have h40 := hw.2.2.2.1
  have ec : (S.1 23 d).toNatClampNeg = c := by rw [c2, nI_clamp (by omega)]
  obtain ⟨ca, k1, k2, k3⟩ := R.c c1
  unfold Dof at a2
  rw [ec, k3, p2] at a2
  exact ⟨a, c, ca, p, a1, c1, c2, p1, p2, k1, k2, a2, ec⟩
theorem K_cw (R : cS h S od to md oc fc fd nx nc nd) (hw : wf_D S nc nd) {d a c : Nat} (hd : d < nd) (ha : fd d = some a) (hc : (S.1 23 d).toNatClampNeg = c) : mj_K me_Court_claimantWins [.ref 17, .ref a] h nx 0 0 (fun r h' nx' => r = none ∧ nx = nx' ∧ fC h h' ∧ cS h' (sp_cw S d) (upd od c (od c - 1)) to md oc fc fd nx nc nd) := by
  obtain ⟨a', c', ca, p, g1, g2, g3, g4, g5, g6, g7, g8, g9⟩ := R.dis hw hd
  have e1 : a' = a := Option.some.inj (g1.symm.trans ha)
  have e2 : c' = c := g9.symm.trans hc
  subst e1; subst e2
  obtain ⟨q, q1, q2⟩ := hw.2.2.2.2.2.2 c' g2
  unfold Cof at g7
  rw [q2] at g7
  refine mj_K.mono (K_Court_claimantWins h nx a' ca q _ _ _ _ _ _ _ _ _ _ _ _ _ _ _ _ _ _ _ _ _ (S.1 14) R.1 R.2.1 q1 g8 g7) ?_
  rintro r h' nx' ⟨rfl, rfl, rfl⟩
  refine ⟨rfl, rfl, (((fC.rf h).so (Or.inr (Or.inr rfl))).so (Or.inl rfl)).si, ?_⟩
  have e14 : (sp_cw S d).1 14 = upd (S.1 14) q (S.1 14 q + 50) := by
    show upd (S.1 14) (S.1 16 (S.1 23 d).toNatClampNeg).toNatClampNeg (S.1 14 (S.1 16 (S.1 23 d).toNatClampNeg).toNatClampNeg + 50) = _
    rw [hc, q2, nI_clamp (by omega)]
  show cR _ (Cof (sp_cw S d) (upd od c' (od c' - 1))) (Dof (sp_cw S d) fc to md) ((sp_cw S d).1 14) oc (S.1 13 0) fc fd nx nc nd
  rw [e14]
  refine (((R.setD hd g1 _).setC g2 g6 _).setP _).ext (fun j hj => ?_) (fun j hj => ?_)
  · show oClm (nI j) (S.1 16 j) (S.1 17 j) (S.2 18 j) (S.1 19 j) (upd od c' (od c' - 1) j) (upd (S.1 20) (S.1 23 d).toNatClampNeg (S.1 13 0) j) = _
    rw [hc]
    by_cases e : j = c'
    · subst e
      rw [ul_s, pk_us, pk_us, q2]
    · rw [ul_n e, pk_un e, pk_un e]
      rfl
  · show oDis (S.1 22 j) ((fc (S.1 23 j).toNatClampNeg).getD 0) (upd (S.1 24) d 1 j) (S.1 25 j) (S.1 26 j) (S.2 27 j) (S.2 28 j) (to j) (md j) (S.1 31 j) (S.1 32 j) (S.1 33 j) = _
    by_cases e : j = d
    · subst e
      rw [ul_s, pk_us, hc, g5, g6]
      rfl
    · rw [ul_n e, pk_un e]
      rfl
end CDW
set_option maxRecDepth 20000 in
set_option maxHeartbeats 4000000 in
theorem cl_drop {Q : mj_post} {g h0 : mj_H} {S : rf_S} {od to : Nat → Int32} {md : Nat → Int64} {oc : Int32} {fc fd : Nat → Option Nat} {nx nc nd c ca : Nat} (hw : wf_D S nc nd) (hc : c < nc) (hca : fc c = some ca) (k : ∀ h lv, mj_pk lv [0, 1] = some [(0, .ref 17), (1, .ref ca)] → cS h (sp_drop (nI c) S nd) od to md oc fc fd nx nc nd → fC h0 h → mj_W me_Court_dropOpenDisputes 55 lv [] h g nx 0 0 Q) : ∀ (d i : Nat) (lv : List (Nat × Value)) (h : mj_H), i + d = nd → mj_pk lv [0, 1, 2] = some [(0, .ref 17), (1, .ref ca), (2, .int (nI i))] → cS h (sp_drop (nI c) S i) od to md oc fc fd nx nc nd → fC h0 h → mj_W me_Court_dropOpenDisputes 2 lv [] h g nx 0 0 Q := by
  have h80 := hw.2.1
  have h40 := hw.2.2.2.1
  intro d
  induction d with
  | zero =>
    intro i lv h hi hlv R hf
    have e : i = nd := by omega
    subst e
    refine mj_W.fewer _ hlv ?_
    iterate 2 (refine mj_r_pure rfl rfl ?_)
    refine mj_r_getf rfl rfl R.1 rfl ?_
    refine mj_r_icmp_ge rfl (fun c1 => ?_) (fun c1 => absurd c1 (fun q => q (nI_le (Nat.le_refl _) (by omega))))
    exact k h _ rfl R hf
  | succ d ih =>
    intro i lv h hi hlv R hf
    refine mj_W.fewer _ hlv ?_
    have e := ih (i + 1)
    have hT : wf_D (sp_drop (nI c) S i) nc nd := hw.kp ((sp_drop_kp _ _ _).mono (by decide))
    unfold sp_drop at e
    generalize sp_drop (nI c) S i = T at R hT e
    obtain ⟨a, ci, ca', p, g1, g2, g3, g4, g5, g6, g7, g8, g9⟩ := R.dis hT (d := i) (by omega)
    obtain ⟨cb, b1, b2, -⟩ := R.c hc
    have : cb = ca := Option.some.inj (b1.symm.trans hca)
    subst this
    unfold Cof at b2 g7
    rw [g5, nI_clamp (by omega)] at e
    have hin : i < nd := by omega
    have R3 : cS (mj_si (mj_so h 3 a (oDis (nI p) ca' 3 (T.1 25 i) (T.1 26 i) (T.2 27 i) (T.2 28 i) (to i) (md i) (T.1 31 i) (T.1 32 i) (T.1 33 i))) 18 8 (upd (T.1 14) p (T.1 14 p + 50))) (sA (sA T 24 i 3) 14 p (T.1 14 p + 50)) od to md oc fc fd nx nc nd := by
      show cR _ (Cof (sA (sA T 24 i 3) 14 p (T.1 14 p + 50)) od) (Dof (sA (sA T 24 i 3) 14 p (T.1 14 p + 50)) fc to md) (upd (T.1 14) p (T.1 14 p + 50)) oc (T.1 13 0) fc fd nx nc nd
      refine ((R.setD hin g1 _).setP _).ext (fun j hj => rfl) (fun j hj => ?_)
      show oDis (T.1 22 j) ((fc (T.1 23 j).toNatClampNeg).getD 0) (upd (T.1 24) i 3 j) (T.1 25 j) (T.1 26 j) (T.2 27 j) (T.2 28 j) (to j) (md j) (T.1 31 j) (T.1 32 j) (T.1 33 j) = _
      by_cases ej : j = i
      · subst ej
        rw [ul_s, pk_us, g9, g5, g6]
        rfl
      · rw [ul_n ej, pk_un ej]
        rfl
    by_cases ho : T.1 24 i = 0
    · iterate 2 (refine mj_r_pure rfl rfl ?_)
      refine mj_r_getf rfl rfl R.1 rfl ?_
      refine mj_r_icmp_ge rfl (fun c1 => absurd c1 (nI_ge (by omega) (by omega))) (fun c1 => ?_)
      iterate 2 (refine mj_r_pure rfl rfl ?_)
      refine mj_r_cV0 (ci := 2)  rfl li_Court_87 ck_Court_openDisputeAt iv_Court_openDisputeAt (by decide) ((K_Court_openAt_t _ nx i nd a _ _ _ _ _ _ _ _ _ _ _ _ _ _ _ fd R.1 R.2.2.2.1 h80 hin g1 g8 ho)) rfl rfl (Nat.le_of_ble_eq_true rfl) rfl R.1 ?_
      rintro _ _ _ ⟨rfl, rfl, rfl⟩ _
      iterate 2 (refine mj_r_pure rfl rfl ?_)
      refine mj_r_pure rfl rfl ?_
      refine mj_r_pure rfl rfl ?_
      refine mj_r_getf rfl rfl g8 rfl ?_
      refine mj_r_getf rfl rfl g7 rfl ?_
      refine mj_r_pure rfl rfl ?_
      refine mj_r_getf rfl rfl b2 rfl ?_
      refine mj_r_icmp_ne rfl (fun c2 => ?_) (fun c2 => ?_)
      · iterate 2 (refine mj_r_pure rfl rfl ?_)
        rw [nI_1]; rw [if_neg (fun q => c2 (g3.symm.trans q.1))] at e; exact e _ _ (by omega) rfl R hf
      · iterate 2 (refine mj_r_pure rfl rfl ?_)
        refine mj_r_putf rfl rfl g8 rfl (Or.inl rfl) rfl rfl ?_
        iterate 2 (refine mj_r_pure rfl rfl ?_)
        refine mj_r_getf rfl rfl so_self rfl ?_
        refine mj_r_pure rfl rfl ?_
        refine mj_r_cV0 (ci := 2)  rfl li_Court_54 ck_Court_pay iv_Court_pay (by decide) ((K_Court_pay _ nx p _ oc _ _ 50 (T.1 14) R.1 R.2.1 g4)) rfl rfl (Nat.le_of_ble_eq_true rfl) rfl R.1 ?_
        rintro _ _ _ ⟨rfl, rfl, rfl⟩ _
        iterate 2 (refine mj_r_pure rfl rfl ?_)
        rw [nI_1]; rw [if_pos ⟨g3.trans c2, ho⟩] at e; exact e _ _ (by omega) rfl R3 ((hf.so (Or.inr (Or.inr rfl))).si)
    · iterate 2 (refine mj_r_pure rfl rfl ?_)
      refine mj_r_getf rfl rfl R.1 rfl ?_
      refine mj_r_icmp_ge rfl (fun c1 => absurd c1 (nI_ge (by omega) (by omega))) (fun c1 => ?_)
      iterate 2 (refine mj_r_pure rfl rfl ?_)
      refine mj_r_cV0 (ci := 2)  rfl li_Court_87 ck_Court_openDisputeAt iv_Court_openDisputeAt (by decide) ((K_Court_openAt_f _ nx i nd a _ _ _ _ _ _ _ _ _ _ _ _ _ _ _ fd R.1 R.2.2.2.1 h80 hin g1 g8 ho)) rfl rfl (Nat.le_of_ble_eq_true rfl) rfl R.1 ?_
      rintro _ _ _ ⟨rfl, rfl, rfl⟩ _
      iterate 2 (refine mj_r_pure rfl rfl ?_)
      refine mj_r_pure rfl rfl ?_
      iterate 2 (refine mj_r_pure rfl rfl ?_)
      rw [nI_1]; rw [if_neg (fun q => ho q.2)] at e; exact e _ _ (by omega) rfl R hf
set_option maxRecDepth 20000 in
set_option maxHeartbeats 4000000 in
theorem K_drop (h : mj_H) (S : rf_S) (od to : Nat → Int32) (md : Nat → Int64) (oc : Int32) (fc fd : Nat → Option Nat) (nx nc nd c ca : Nat) (R : cS h S od to md oc fc fd nx nc nd) (hw : wf_D S nc nd) (hc : c < nc) (hca : fc c = some ca) : mj_K me_Court_dropOpenDisputes [.ref 17, .ref ca] h nx 0 0 (fun r h' nx' => r = none ∧ nx = nx' ∧ fC h h' ∧ cS h' (sp_drop (nI c) S nd) (upd od c 0) to md oc fc fd nx nc nd) := by
  refine mj_K.of ok_Court_dropOpenDisputes ck_Court_dropOpenDisputes (Nat.le_of_ble_eq_true rfl) ?_
  iterate 2 (refine mj_r_pure rfl rfl ?_)
  refine cl_drop hw hc hca (fun h' lv hlv R' hf => ?_) nd 0 _ h (by omega) rfl R (fC.rf h)
  refine mj_W.fewer _ hlv ?_
  generalize sp_drop (nI c) S nd = T at R'
  obtain ⟨cb, b1, b2, -⟩ := R'.c hc
  have : cb = ca := Option.some.inj (b1.symm.trans hca)
  subst this
  unfold Cof at b2
  iterate 2 (refine mj_r_pure rfl rfl ?_)
  refine mj_r_putf rfl rfl b2 rfl (Or.inl rfl) rfl rfl ?_
  refine mj_r_ret rfl rfl ⟨rfl, rfl, hf.so (Or.inl rfl), ?_⟩
  refine (R'.setC hc hca _).ext (fun j hj => ?_) (fun j hj => rfl)
  show oClm (nI j) (T.1 16 j) (T.1 17 j) (T.2 18 j) (T.1 19 j) (upd od c 0 j) (T.1 20 j) = _
  by_cases e : j = c
  · subst e
    rw [ul_s, pk_us]
  · rw [ul_n e, pk_un e]
    rfl
set_option maxRecDepth 20000 in
set_option maxHeartbeats 4000000 in
theorem K_dw (h : mj_H) (S : rf_S) (od to : Nat → Int32) (md : Nat → Int64) (oc : Int32) (fc fd : Nat → Option Nat) (nx nc nd d a c : Nat) (R : cS h S od to md oc fc fd nx nc nd) (hw : wf_D S nc nd) (hd : d < nd) (ha : fd d = some a) (hc : (S.1 23 d).toNatClampNeg = c) : mj_K me_Court_disputerWins [.ref 17, .ref a] h nx 0 0 (fun r h' nx' => r = none ∧ nx = nx' ∧ fC h h' ∧ cS h' (sp_dw S d nd) (upd od c 0) to md (oc - 1) fc fd nx nc nd) := by
  refine mj_K.of ok_Court_disputerWins ck_Court_disputerWins (Nat.le_of_ble_eq_true rfl) ?_
  obtain ⟨a', c', ca, p, g1, g2, g3, g4, g5, g6, g7, g8, g9⟩ := R.dis hw hd
  have e1 : a' = a := Option.some.inj (g1.symm.trans ha)
  have e2 : c' = c := g9.symm.trans hc
  subst e1; subst e2
  unfold Cof at g7
  have hw0 : wf_D (sp_dw0 S d) nc nd := hw.kp ((((kp.rf S).a (by decide) _ _).a (by decide) _ _).a (by decide) _ _)
  have e14 : (sp_dw0 S d).1 14 = upd (S.1 14) p (S.1 14 p + 150) := by
    show upd (S.1 14) (S.1 22 d).toNatClampNeg (S.1 14 (S.1 22 d).toNatClampNeg + 150) = _
    rw [g5, nI_clamp (by omega)]
  have e23 : S.1 23 d = nI c' := g3
  have R1 : cS (mj_so (mj_so (mj_si (mj_so h 3 a' (oDis (nI p) ca 2 (S.1 25 d) (S.1 26 d) (S.2 27 d) (S.2 28 d) (to d) (md d) (S.1 31 d) (S.1 32 d) (S.1 33 d))) 18 8 (upd (S.1 14) p (S.1 14 p + 150))) 1 ca (oClm (nI c') (S.1 16 c') (S.1 17 c') (S.2 18 c') 2 (od c') (S.1 20 c'))) 2 17 (oCrt (nI nc) (oc - 1) (nI nd) (S.1 13 0))) (sp_dw0 S d) od to md (oc - 1) fc fd nx nc nd := by
    show cR _ (Cof (sp_dw0 S d) od) (Dof (sp_dw0 S d) fc to md) ((sp_dw0 S d).1 14) (oc - 1) (S.1 13 0) fc fd nx nc nd
    rw [e14]
    refine ((((R.setD hd g1 _).setP _).setC g2 g6 _).setT _ _).ext (fun j hj => ?_) (fun j hj => ?_)
    · show oClm (nI j) (S.1 16 j) (S.1 17 j) (S.2 18 j) (upd (S.1 19) (S.1 23 d).toNatClampNeg 2 j) (od j) (S.1 20 j) = _
      rw [hc]
      by_cases e : j = c'
      · subst e
        rw [ul_s, pk_us]
      · rw [ul_n e, pk_un e]
        rfl
    · show oDis (S.1 22 j) ((fc (S.1 23 j).toNatClampNeg).getD 0) (upd (S.1 24) d 2 j) (S.1 25 j) (S.1 26 j) (S.2 27 j) (S.2 28 j) (to j) (md j) (S.1 31 j) (S.1 32 j) (S.1 33 j) = _
      by_cases e : j = d
      · subst e
        rw [ul_s, pk_us, hc, g5, g6]
        rfl
      · rw [ul_n e, pk_un e]
        rfl
  have ed : sp_dw S d nd = sp_drop (nI c') (sp_dw0 S d) nd := by unfold sp_dw; rw [e23]
  rw [ed]
  iterate 2 (refine mj_r_pure rfl rfl ?_)
  refine mj_r_putf rfl rfl g8 rfl (Or.inl rfl) rfl rfl ?_
  iterate 2 (refine mj_r_pure rfl rfl ?_)
  refine mj_r_getf rfl rfl so_self rfl ?_
  refine mj_r_pure rfl rfl ?_
  refine mj_r_cV0 (ci := 2)  rfl li_Court_54 ck_Court_pay iv_Court_pay (by decide) ((K_Court_pay _ nx p _ oc _ _ 150 (S.1 14) R.1 R.2.1 g4)) rfl rfl (Nat.le_of_ble_eq_true rfl) rfl R.1 ?_
  rintro _ _ _ ⟨rfl, rfl, rfl⟩ _
  refine mj_r_pure rfl rfl ?_
  refine mj_r_getf rfl rfl (so_self (h := h) (ci := 3) (a := a')) rfl ?_
  refine mj_r_pure rfl rfl ?_
  refine mj_r_putf rfl rfl g7 rfl (Or.inl rfl) rfl rfl ?_
  iterate 2 (refine mj_r_pure rfl rfl ?_)
  refine mj_r_getf rfl rfl R.1 rfl ?_
  iterate 2 (refine mj_r_pure rfl rfl ?_)
  refine mj_r_putf rfl rfl R.1 rfl (Or.inl rfl) rfl rfl ?_
  iterate 2 (refine mj_r_pure rfl rfl ?_)
  refine mj_r_getf rfl rfl (so_self (h := h) (ci := 3) (a := a')) rfl ?_
  refine mj_r_cV0 (ci := 2)  rfl li_Court_83 ck_Court_dropOpenDisputes iv_Court_dropOpenDisputes (by decide) ((K_drop _ (sp_dw0 S d) od to md (oc - 1) fc fd nx nc nd c' ca R1 hw0 g2 g6)) rfl rfl (Nat.le_of_ble_eq_true rfl) rfl R1.1 ?_
  rintro _ h' _ ⟨rfl, rfl, hf, R2⟩ _
  exact mj_r_ret rfl rfl ⟨rfl, rfl, ((((((fC.rf h).so (Or.inr (Or.inr rfl))).si).so (Or.inl rfl)).so (Or.inr (Or.inl rfl)))).tr hf, R2⟩
