/-! the class: claims that are accepted; ticks -/
theorem tl_le {k u t : Nat} (hk : k ≤ 80) (hu : u ≤ t) (ht : t < 2 ^ 28) : sp_tl 0 (nI k) (nI u) (nI t) ≤ 0 ↔ nI k = 0 ∧ ¬ nI t - nI u < 40 := by
  rw [sp_tl, if_pos rfl]
  have e1 : (nI t - nI u).toInt = (t : Int) - u := pk_sub_toInt (by omega) (by omega)
  have e2 : nI u + 40 = nI (u + 40) := nI_add u 40
  have e3 : (nI (u + 40) - nI t).toInt = ((u + 40 : Nat) : Int) - t := pk_sub_toInt (by omega) (by omega)
  have e4 : (40 : Int32).toInt = 40 := by decide +kernel
  have e5 : (0 : Int32).toInt = 0 := by decide +kernel
  by_cases k0 : k = 0
  · subst k0
    rw [if_pos (show nI 0 ≤ 0 from nI_le (a := 0) (b := 0) (by omega) (by omega)), e2, Int32.le_iff_toInt_le, e3, e5, Int32.lt_iff_toInt_lt, e1, e4]
    constructor
    · intro q
      exact ⟨rfl, by omega⟩
    · intro q
      have := q.2
      omega
  · rw [if_neg (show ¬ nI k ≤ 0 from nI_nle (by omega) (by omega))]
    constructor
    · intro q
      rw [Int32.le_iff_toInt_le, e4, e5] at q
      omega
    · intro q
      exact absurd q.1 (nI_ne0 (by omega) (by omega))
theorem pA.acc {S : rf_S} {nc nd c p : Nat} {od : Nat → Int32} {oc v : Int32} (P : pA S nc nd od oc) (hc : c < nc) (h0 : S.1 19 c = 0) (ho : sp_open S (nI c) nd = 0) : pA (sA (sA S 19 c 1) 14 p v) nc nd od (oc - 1) := by
  obtain ⟨hw, h1, h2, h3⟩ := P
  have h40 := hw.2.2.2.1
  refine ⟨hw, h1, ?_, fun d hd hz => ?_⟩
  · have : nOp S nc = nOp (sA (sA S 19 c 1) 14 p v) nc + 1 := cnt_flip hc (decide_eq_true h0) (decide_eq_false (by show ¬ upd (S.1 19) c 1 c = 0; rw [pk_us]; decide)) (fun i hi he => by show decide (upd (S.1 19) c 1 i = 0) = _; rw [pk_un he])
    rw [h2, this, nI_pred]
  · show upd (S.1 19) c 1 (S.1 23 d).toNatClampNeg = 0
    have hz : S.1 24 d = 0 := hz
    obtain ⟨ci, m1, m2⟩ := hw.2.2.2.2.1 d hd
    rw [pk_un (fun q => by
      rw [m2, nI_clamp (by omega)] at q
      have := cnt_pos hd (isO_t (S := S) (c := nI c) (by rw [m2, q]) hz)
      have ho : cnt (sp_isO S (nI c)) nd = 0 := ho
      omega)]
    exact h3 d hd hz
theorem pU.acc {S : rf_S} {nc T c p : Nat} {v : Int32} (P : pU S nc T) : pU (sA (sA S 19 c 1) 14 p v) nc T := by
  obtain ⟨t, h1, h2, h3⟩ := P
  refine ⟨t, h1, h2, fun j hj h0 => ?_⟩
  have h0 : upd (S.1 19) c 1 j = 0 := h0
  by_cases e : j = c
  · subst e
    rw [pk_us] at h0
    exact absurd h0 (by decide)
  · rw [pk_un e] at h0
    exact h3 j hj h0
set_option maxRecDepth 20000 in
set_option maxHeartbeats 4000000 in
theorem cl_acc {Q : mj_post} {g h0 : mj_H} {S : rf_S} {to : Nat → Int32} {md : Nat → Int64} {fc fd : Nat → Option Nat} {nx nc nd T : Nat} (hT : T < 2 ^ 28) (h40 : nc ≤ 40) (h80 : nd ≤ 80) (k : ∀ h od oc, cS h (sp_tc S nd nc) od to md oc fc fd nx nc nd → pAll (sp_tc S nd nc) nc nd T od oc to md → fC h0 h → Q.2 none h g nx) : ∀ (d i : Nat) (lv : List (Nat × Value)) (h : mj_H) (od : Nat → Int32) (oc : Int32), i + d = nc → mj_pk lv [0, 1] = some [(0, .ref 17), (1, .int (nI i))] → cS h (sp_tc S nd i) od to md oc fc fd nx nc nd → pAll (sp_tc S nd i) nc nd T od oc to md → fC h0 h → mj_W me_Court_acceptQuietClaims 2 lv [] h g nx 0 0 Q := by
  intro d
  induction d with
  | zero =>
    intro i lv h od oc hi hlv R P hf
    have e : i = nc := by omega
    subst e
    refine mj_W.fewer _ hlv ?_
    iterate 2 (refine mj_r_pure rfl rfl ?_)
    refine mj_r_getf rfl rfl R.1 rfl ?_
    refine mj_r_icmp_ge rfl (fun c1 => ?_) (fun c1 => absurd c1 (fun q => q (nI_le (Nat.le_refl _) (by omega))))
    exact mj_r_ret rfl rfl ((k h od oc R P hf))
  | succ d ih =>
    intro i lv h od oc hi hlv R P hf
    refine mj_W.fewer _ hlv ?_
    have e := ih (i + 1)
    unfold sp_tc at e
    generalize sp_tc S nd i = U at R P e
    obtain ⟨PA, PK, PT, PU⟩ := P
    have hw := PA.1
    have hin : i < nc := by omega
    obtain ⟨a, g1, g2, -⟩ := R.c hin
    obtain ⟨p, p1, p2⟩ := hw.2.2.2.2.2.2 i hin
    unfold Cof at g2
    rw [p2] at g2
    by_cases ho : U.1 19 i = 0
    · obtain ⟨t, t1, t2, t3⟩ := id PU
      obtain ⟨u, u1, u2⟩ := t3 i hin ho
      have eod := PA.2.1 i hin
      have hk : sp_open U (nI i) nd ≤ 80 := Nat.le_trans (cnt_le _ _) h80
      have iff1 := tl_le hk u1 (by omega : t < 2 ^ 28)
      have etl : sp_tl (U.1 19 i) (od i) (U.1 20 i) (U.1 13 0) = sp_tl 0 (nI (sp_open U (nI i) nd)) (nI u) (nI t) := by rw [ho, eod, u2, t1]
      by_cases cq : nI (sp_open U (nI i) nd) = 0 ∧ ¬ U.1 13 0 - U.1 20 i < 40
      · have etc : sp_tc1 U i nd = sA (sA U 19 i 1) 14 p (U.1 14 p + 100) := by
          rw [sp_tc1, if_pos ⟨ho, cq⟩, p2, nI_clamp (by omega)]
        rw [etc] at e
        have k0 : sp_open U (nI i) nd = 0 := (nI_eq (a := sp_open U (nI i) nd) (b := 0) (by omega) (by omega)).mp cq.1
        have R3 : cS (mj_si (mj_so (mj_so h 1 a (oClm (nI i) (nI p) (U.1 17 i) (U.2 18 i) 1 (od i) (U.1 20 i))) 2 17 (oCrt (nI nc) (oc - 1) (nI nd) (U.1 13 0))) 18 8 (upd (U.1 14) p (U.1 14 p + 100))) (sA (sA U 19 i 1) 14 p (U.1 14 p + 100)) od to md (oc - 1) fc fd nx nc nd := by
          show cR _ (Cof (sA (sA U 19 i 1) 14 p (U.1 14 p + 100)) od) (Dof (sA (sA U 19 i 1) 14 p (U.1 14 p + 100)) fc to md) (upd (U.1 14) p (U.1 14 p + 100)) (oc - 1) (U.1 13 0) fc fd nx nc nd
          refine (((R.setC hin g1 _).setT _ _).setP _).ext (fun j hj => ?_) (fun j hj => rfl)
          show oClm (nI j) (U.1 16 j) (U.1 17 j) (U.2 18 j) (upd (U.1 19) i 1 j) (od j) (U.1 20 j) = _
          by_cases ej : j = i
          · subst ej
            rw [ul_s, pk_us, p2]
          · rw [ul_n ej, pk_un ej]
            rfl
        iterate 2 (refine mj_r_pure rfl rfl ?_)
        refine mj_r_getf rfl rfl R.1 rfl ?_
        refine mj_r_icmp_ge rfl (fun z1 => absurd z1 (nI_ge (by omega) (by omega))) (fun z1 => ?_)
        iterate 2 (refine mj_r_pure rfl rfl ?_)
        refine mj_r_cV0 (ci := 2)  rfl li_Court_115 ck_Court_claimAt iv_Court_claimAt (by decide) ((K_Court_claimAt_t _ nx i nc a _ _ _ fc R.1 R.2.2.1 h40 hin g1)) rfl rfl (Nat.le_of_ble_eq_true rfl) rfl R.1 ?_
        rintro _ _ _ ⟨rfl, rfl, rfl⟩ _
        iterate 2 (refine mj_r_pure rfl rfl ?_)
        refine mj_r_pure rfl rfl ?_
        refine mj_r_pure rfl rfl ?_
        refine mj_r_getf rfl rfl g2 rfl ?_
        refine mj_r_if_ne rfl (fun z2 => absurd z2 (fun q => q ho)) (fun z2 => ?_)
        iterate 2 (refine mj_r_pure rfl rfl ?_)
        refine mj_r_getf rfl rfl R.1 rfl ?_
        refine mj_r_cV0 (ci := 1)  rfl li_Court_119 ck_Claim_ticksLeft iv_Claim_ticksLeft (by decide) ((K_Claim_ticksLeft _ a nx _ _ _ _ _ _ _ _ g2)) rfl rfl (Nat.le_of_ble_eq_true rfl) rfl g2 ?_
        rintro _ h9 _ ⟨rfl, rfl, rfl⟩ _
        rw [etl]
        refine mj_r_if_gt rfl (fun z3 => absurd z3 ((Int32.not_lt.mpr (iff1.mpr (by rw [← t1, ← u2]; exact cq))))) (fun z3 => ?_)
        iterate 2 (refine mj_r_pure rfl rfl ?_)
        refine mj_r_putf rfl rfl g2 rfl (Or.inl rfl) rfl rfl ?_
        iterate 2 (refine mj_r_pure rfl rfl ?_)
        refine mj_r_getf rfl rfl R.1 rfl ?_
        iterate 2 (refine mj_r_pure rfl rfl ?_)
        refine mj_r_putf rfl rfl R.1 rfl (Or.inl rfl) rfl rfl ?_
        iterate 2 (refine mj_r_pure rfl rfl ?_)
        refine mj_r_getf rfl rfl (so_self (h := h9) (ci := 1) (a := a)) rfl ?_
        refine mj_r_pure rfl rfl ?_
        refine mj_r_cV0 (ci := 2)  rfl li_Court_54 ck_Court_pay iv_Court_pay (by decide) ((K_Court_pay _ nx p _ _ _ _ 100 (U.1 14) rfl R.2.1 p1)) rfl rfl (Nat.le_of_ble_eq_true rfl) rfl rfl ?_
        rintro _ _ _ ⟨rfl, rfl, rfl⟩ _
        iterate 2 (refine mj_r_pure rfl rfl ?_)
        rw [nI_1]; exact e _ _ _ _ (by omega) rfl R3 ⟨PA.acc hin ho k0, PK, PT, PU.acc⟩ (((hf.so (Or.inl rfl)).so (Or.inr (Or.inl rfl))).si)
      · have etc : sp_tc1 U i nd = U := by rw [sp_tc1, if_neg (fun q => cq q.2)]
        rw [etc] at e
        iterate 2 (refine mj_r_pure rfl rfl ?_)
        refine mj_r_getf rfl rfl R.1 rfl ?_
        refine mj_r_icmp_ge rfl (fun z1 => absurd z1 (nI_ge (by omega) (by omega))) (fun z1 => ?_)
        iterate 2 (refine mj_r_pure rfl rfl ?_)
        refine mj_r_cV0 (ci := 2)  rfl li_Court_115 ck_Court_claimAt iv_Court_claimAt (by decide) ((K_Court_claimAt_t _ nx i nc a _ _ _ fc R.1 R.2.2.1 h40 hin g1)) rfl rfl (Nat.le_of_ble_eq_true rfl) rfl R.1 ?_
        rintro _ _ _ ⟨rfl, rfl, rfl⟩ _
        iterate 2 (refine mj_r_pure rfl rfl ?_)
        refine mj_r_pure rfl rfl ?_
        refine mj_r_pure rfl rfl ?_
        refine mj_r_getf rfl rfl g2 rfl ?_
        refine mj_r_if_ne rfl (fun z2 => absurd z2 (fun q => q ho)) (fun z2 => ?_)
        iterate 2 (refine mj_r_pure rfl rfl ?_)
        refine mj_r_getf rfl rfl R.1 rfl ?_
        refine mj_r_cV0 (ci := 1)  rfl li_Court_119 ck_Claim_ticksLeft iv_Claim_ticksLeft (by decide) ((K_Claim_ticksLeft _ a nx _ _ _ _ _ _ _ _ g2)) rfl rfl (Nat.le_of_ble_eq_true rfl) rfl g2 ?_
        rintro _ _ _ ⟨rfl, rfl, rfl⟩ _
        rw [etl]
        refine mj_r_if_gt rfl (fun z3 => ?_) (fun z3 => absurd z3 (fun q => cq (by rw [t1, u2]; exact iff1.mp (Int32.not_lt.mp q))))
        iterate 2 (refine mj_r_pure rfl rfl ?_)
        rw [nI_1]; exact e _ _ od oc (by omega) rfl R ⟨PA, PK, PT, PU⟩ hf
    · have etc : sp_tc1 U i nd = U := by rw [sp_tc1, if_neg (fun q => ho q.1)]
      rw [etc] at e
      iterate 2 (refine mj_r_pure rfl rfl ?_)
      refine mj_r_getf rfl rfl R.1 rfl ?_
      refine mj_r_icmp_ge rfl (fun z1 => absurd z1 (nI_ge (by omega) (by omega))) (fun z1 => ?_)
      iterate 2 (refine mj_r_pure rfl rfl ?_)
      refine mj_r_cV0 (ci := 2)  rfl li_Court_115 ck_Court_claimAt iv_Court_claimAt (by decide) ((K_Court_claimAt_t _ nx i nc a _ _ _ fc R.1 R.2.2.1 h40 hin g1)) rfl rfl (Nat.le_of_ble_eq_true rfl) rfl R.1 ?_
      rintro _ _ _ ⟨rfl, rfl, rfl⟩ _
      iterate 2 (refine mj_r_pure rfl rfl ?_)
      refine mj_r_pure rfl rfl ?_
      refine mj_r_pure rfl rfl ?_
      refine mj_r_getf rfl rfl g2 rfl ?_
      refine mj_r_if_ne rfl (fun z2 => ?_) (fun z2 => absurd z2 (ho))
      iterate 2 (refine mj_r_pure rfl rfl ?_)
      rw [nI_1]; exact e _ _ od oc (by omega) rfl R ⟨PA, PK, PT, PU⟩ hf
set_option maxRecDepth 20000 in
set_option maxHeartbeats 4000000 in
theorem K_acc (h : mj_H) (S : rf_S) (od to : Nat → Int32) (md : Nat → Int64) (oc : Int32) (fc fd : Nat → Option Nat) (nx nc nd T : Nat) (hT : T < 2 ^ 28) (R : cS h S od to md oc fc fd nx nc nd) (P : pAll S nc nd T od oc to md) : mj_K me_Court_acceptQuietClaims [.ref 17] h nx 0 0 (fun r h' nx' => r = none ∧ nx = nx' ∧ fC h h' ∧ ∃ od' oc', cS h' (sp_tc S nd nc) od' to md oc' fc fd nx nc nd ∧ pAll (sp_tc S nd nc) nc nd T od' oc' to md) := by
  refine mj_K.of ok_Court_acceptQuietClaims ck_Court_acceptQuietClaims (Nat.le_of_ble_eq_true rfl) ?_
  iterate 2 (refine mj_r_pure rfl rfl ?_)
  refine cl_acc hT P.1.1.2.2.2.1 P.1.1.2.1 (fun h' od' oc' R' P' hf => ?_) nc 0 _ h od oc (by omega) rfl R P (fC.rf h)
  exact ⟨rfl, rfl, hf, od', oc', R', P'⟩
/-! time passes -/
theorem cw_13 (S : rf_S) (d : Nat) : (sp_cw S d).1 13 = S.1 13 := rfl
theorem dw_13 (S : rf_S) (d nd : Nat) : (sp_dw S d nd).1 13 = S.1 13 := by show (sp_drop _ _ nd).1 13 = _; rw [(sp_drop_kp _ _ _).1 13 (by decide)]; rfl
theorem td_13 (S : rf_S) (nd n : Nat) : (sp_td S nd n).1 13 = S.1 13 := by
  induction n with
  | zero => rfl
  | succ n ih =>
    unfold sp_td
    rw [← ih]
    generalize sp_td S nd n = T
    unfold sp_td1
    split
    · split
      · split <;> rfl
      · split
        · rw [dw_13]; rfl
        · rfl
    · rfl
theorem tc_13 (S : rf_S) (nd n : Nat) : (sp_tc S nd n).1 13 = S.1 13 := by
  induction n with
  | zero => rfl
  | succ n ih =>
    unfold sp_tc
    rw [← ih]
    generalize sp_tc S nd n = T
    unfold sp_tc1
    split <;> rfl
theorem t1_13 (S : rf_S) (nc nd : Nat) : (sp_t1 S nc nd).1 13 0 = S.1 13 0 + 1 := by
  unfold sp_t1
  rw [tc_13, td_13]
  rfl
theorem tN_13 (S : rf_S) (nc nd n : Nat) : (sp_tN S nc nd n).1 13 0 = S.1 13 0 + nI n := by
  induction n with
  | zero => exact (Int32.add_zero _).symm
  | succ n ih =>
    show (sp_t1 (sp_tN S nc nd n) nc nd).1 13 0 = _
    rw [t1_13, ih, Int32.add_assoc, nI_1]
/-- where no claim is open nothing but time moves -/
theorem t1_idle {S : rf_S} {nc nd : Nat} (h1 : ∀ c, c < nc → ¬ S.1 19 c = 0) (h2 : ∀ d, d < nd → ¬ S.1 24 d = 0) : sp_t1 S nc nd = sI S 13 (S.1 13 0 + 1) := by
  unfold sp_t1
  have e1 : ∀ n, n ≤ nd → sp_td (sI S 13 (S.1 13 0 + 1)) nd n = sI S 13 (S.1 13 0 + 1) := by
    intro n
    induction n with
    | zero => intro _; rfl
    | succ n ih =>
      intro hn
      unfold sp_td
      rw [ih (by omega), sp_td1, if_neg (show ¬ (sI S 13 (S.1 13 0 + 1)).1 24 n = 0 from h2 n (by omega))]
  have e2 : ∀ n, n ≤ nc → sp_tc (sI S 13 (S.1 13 0 + 1)) nd n = sI S 13 (S.1 13 0 + 1) := by
    intro n
    induction n with
    | zero => intro _; rfl
    | succ n ih =>
      intro hn
      unfold sp_tc
      rw [ih (by omega), sp_tc1, if_neg (fun q => h1 n (by omega) q.1)]
  rw [e1 nd (Nat.le_refl _), e2 nc (Nat.le_refl _)]
theorem tN_idle {S : rf_S} {nc nd i : Nat} (h1 : ∀ c, c < nc → ¬ (sp_tN S nc nd i).1 19 c = 0) (h2 : ∀ d, d < nd → ¬ (sp_tN S nc nd i).1 24 d = 0) (d : Nat) : kp [13] (sp_tN S nc nd i) (sp_tN S nc nd (i + d)) := by
  induction d with
  | zero => exact kp.rf _
  | succ d ih =>
    show kp [13] _ (sp_t1 (sp_tN S nc nd (i + d)) nc nd)
    rw [t1_idle (fun c hc => by rw [ih.1 19 (by decide)]; exact h1 c hc) (fun c hc => by rw [ih.1 24 (by decide)]; exact h2 c hc)]
    exact ih.i (by decide) _
theorem cS.kp13 {h : mj_H} {S V : rf_S} {od to : Nat → Int32} {md : Nat → Int64} {oc : Int32} {fc fd : Nat → Option Nat} {nx nc nd : Nat} (R : cS h S od to md oc fc fd nx nc nd) (k : kp [13] S V) : cS (mj_so h 2 17 (oCrt (nI nc) oc (nI nd) (V.1 13 0))) V od to md oc fc fd nx nc nd := by
  show cR _ (Cof V od) (Dof V fc to md) (V.1 14) oc (V.1 13 0) fc fd nx nc nd
  rw [k.1 14 (by decide)]
  refine (R.setT oc (V.1 13 0)).ext (fun j hj => ?_) (fun j hj => ?_)
  · unfold Cof
    rw [k.1 16 (by decide), k.1 17 (by decide), k.1 19 (by decide), k.1 20 (by decide), k.2]
  · unfold Dof
    rw [k.1 22 (by decide), k.1 23 (by decide), k.1 24 (by decide), k.1 25 (by decide), k.1 26 (by decide), k.1 31 (by decide), k.1 32 (by decide), k.1 33 (by decide), k.2]
theorem pAll.kp13 {S V : rf_S} {nc nd T T' t' : Nat} {od to : Nat → Int32} {md : Nat → Int64} {oc : Int32} (P : pAll S nc nd T od oc to md) (k : kp [13] S V) (hT : T ≤ t') (ht : V.1 13 0 = nI t') (hT' : t' ≤ T') : pAll V nc nd T' od oc to md := by
  obtain ⟨PA, PK, PT, t, t1, t2, t3⟩ := P
  refine ⟨?_, ?_, ?_, t', ht, hT', ?_⟩
  · unfold pA nOp sp_open wf_D at *
    have eo : ∀ c : Int32, sp_isO V c = sp_isO S c := fun c => by funext d; unfold sp_isO; rw [k.1 23 (by decide), k.1 24 (by decide)]
    simp only [eo, k.1 21 (by decide), k.1 15 (by decide), k.1 23 (by decide), k.1 22 (by decide), k.1 16 (by decide), k.1 24 (by decide), k.1 19 (by decide)]
    exact PA
  · unfold pK at *
    rw [k.1 24 (by decide), k.1 31 (by decide), k.1 32 (by decide)]
    exact PK
  · unfold pT at *
    rw [k.1 30 (by decide), k.1 26 (by decide), k.1 25 (by decide), k.2]
    exact PT
  · rw [k.1 19 (by decide), k.1 20 (by decide)]
    intro c hc h0
    obtain ⟨u, u1, u2⟩ := t3 c hc h0
    exact ⟨u, by omega, u2⟩
