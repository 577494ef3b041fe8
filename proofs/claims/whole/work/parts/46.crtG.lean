/-! the class: pass, tick -/
theorem nOp_0 {S : rf_S} {nc c : Nat} (h : nOp S nc = 0) (hc : c < nc) : ¬ S.1 19 c = 0 := fun q => by
  have := cnt_pos (p := fun c => decide (S.1 19 c = 0)) hc (decide_eq_true q)
  unfold nOp at h
  omega
theorem pAll.idle {S : rf_S} {nc nd T : Nat} {od to : Nat → Int32} {md : Nat → Int64} {oc : Int32} (P : pAll S nc nd T od oc to md) (h0 : nOp S nc = 0) : (∀ c, c < nc → ¬ S.1 19 c = 0) ∧ ∀ d, d < nd → ¬ S.1 24 d = 0 := by
  refine ⟨fun c hc => nOp_0 h0 hc, fun d hd q => ?_⟩
  have h1 := P.1.2.2.2 d hd q
  obtain ⟨c, c1, c2⟩ := P.1.1.2.2.2.2.1 d hd
  have h40 := P.1.1.2.2.2.1
  rw [c2, nI_clamp (by omega)] at h1
  exact nOp_0 h0 c1 h1
theorem pAll.t1 {S : rf_S} {nc nd T : Nat} {od to : Nat → Int32} {md : Nat → Int64} {oc : Int32} (P : pAll S nc nd T od oc to md) (hT : T < 2 ^ 28) : pAll (sI S 13 (S.1 13 0 + 1)) nc nd (T + 1) od oc to md := by
  obtain ⟨PA, PK, PT, t, t1, t2, t3⟩ := P
  refine ⟨PA, PK, PT, t + 1, ?_, by omega, fun c hc h0 => ?_⟩
  · show S.1 13 0 + 1 = _
    rw [t1, nI_1]
  · obtain ⟨u, u1, u2⟩ := t3 c hc h0
    exact ⟨u, by omega, u2⟩
theorem pAll.mono {S : rf_S} {nc nd T T' : Nat} {od to : Nat → Int32} {md : Nat → Int64} {oc : Int32} (P : pAll S nc nd T od oc to md) (hT : T ≤ T') : pAll S nc nd T' od oc to md := by
  obtain ⟨PA, PK, PT, t, t1, t2, t3⟩ := P
  exact ⟨PA, PK, PT, t, t1, by omega, t3⟩
set_option maxRecDepth 20000 in
set_option maxHeartbeats 4000000 in
theorem cl_pass {Q : mj_post} {g h0 : mj_H} {S : rf_S} {to : Nat → Int32} {md : Nat → Int64} {fc fd : Nat → Option Nat} {nx nc nd t0 T n : Nat} (hT : T + n < 2 ^ 28) (ht0 : S.1 13 0 = nI t0) (ht1 : t0 ≤ T) (k : ∀ h od oc, cS h (sp_tN S nc nd n) od to md oc fc fd nx nc nd → pAll (sp_tN S nc nd n) nc nd (T + n) od oc to md → fC h0 h → Q.2 none h g nx) : ∀ (d i : Nat) (h : mj_H) (od : Nat → Int32) (oc : Int32), i + d = n → cS h (sp_tN S nc nd i) od to md oc fc fd nx nc nd → pAll (sp_tN S nc nd i) nc nd (T + i) od oc to md → fC h0 h → mj_W me_Court_pass 9 [(0, .ref 17), (1, .int (nI n)), (2, .int (nI t0 + nI n)), (3, .int (nI i))] [] h g nx 0 0 Q := by
  intro d
  induction d with
  | zero =>
    intro i h od oc hi R P hf
    have e : i = n := by omega
    subst e
    have e13 := tN_13 S nc nd i
    have R2 := R.kp13 (kp.rf _)
    rw [e13, ht0] at R2
    iterate 2 (refine mj_r_pure rfl rfl ?_)
    refine mj_r_icmp_ge rfl (fun c1 => ?_) (fun c1 => absurd c1 (fun q => q (nI_le (Nat.le_refl _) (by omega))))
    iterate 2 (refine mj_r_pure rfl rfl ?_)
    refine mj_r_putf rfl rfl R.1 rfl (Or.inl rfl) rfl rfl ?_
    exact mj_r_ret rfl rfl ((k _ od oc R2 P (hf.so (Or.inr (Or.inl rfl)))))
  | succ d ih =>
    intro i h od oc hi R P hf
    have e := ih (i + 1)
    by_cases h0 : nOp (sp_tN S nc nd i) nc = 0
    · have hid := P.idle h0
      have kk := tN_idle hid.1 hid.2 (d + 1)
      rw [hi] at kk
      have e13 := tN_13 S nc nd n
      have R2 := R.kp13 kk
      have P2 : pAll (sp_tN S nc nd n) nc nd (T + n) od oc to md := by
        obtain ⟨PA, PK, PT, t, t1, t2, t3⟩ := P
        have e2 := tN_13 S nc nd i
        rw [t1, ht0, nI_add] at e2
        have e3 := (nI_eq (by omega) (by omega)).mp e2
        refine pAll.kp13 (T := t) (t' := t0 + n) ⟨PA, PK, PT, t, t1, Nat.le_refl _, t3⟩ kk (by omega) ?_ (by omega)
        rw [e13, ht0, nI_add]
      rw [e13, ht0] at R2
      have eoc : oc = 0 := by rw [P.1.2.2.1, h0]; rfl
      iterate 2 (refine mj_r_pure rfl rfl ?_)
      refine mj_r_icmp_ge rfl (fun z1 => absurd z1 (nI_ge (by omega) (by omega))) (fun z1 => ?_)
      refine mj_r_pure rfl rfl ?_
      refine mj_r_getf rfl rfl R.1 rfl ?_
      refine mj_r_if_le rfl (fun z2 => ?_) (fun z2 => absurd z2 (fun q => q (by rw [eoc]; decide)))
      iterate 2 (refine mj_r_pure rfl rfl ?_)
      refine mj_r_putf rfl rfl R.1 rfl (Or.inl rfl) rfl rfl ?_
      exact mj_r_ret rfl rfl ((k _ od oc R2 P2 (hf.so (Or.inr (Or.inl rfl)))))
    · have eoc : ¬ oc ≤ 0 := by
        rw [P.1.2.2.1]
        have : nOp (sp_tN S nc nd i) nc ≤ nc := cnt_le _ _
        have h40 := P.1.1.2.2.2.1
        exact nI_nle (by omega) (by omega)
      unfold sp_tN sp_t1 at e
      generalize sp_tN S nc nd i = U at R P e
      have R1 : cS (mj_so h 2 17 (oCrt (nI nc) oc (nI nd) (U.1 13 0 + 1))) (sI U 13 (U.1 13 0 + 1)) od to md oc fc fd nx nc nd := R.setT oc (U.1 13 0 + 1)
      have P1 := P.t1 (by omega)
      iterate 2 (refine mj_r_pure rfl rfl ?_)
      refine mj_r_icmp_ge rfl (fun z1 => absurd z1 (nI_ge (by omega) (by omega))) (fun z1 => ?_)
      refine mj_r_pure rfl rfl ?_
      refine mj_r_getf rfl rfl R.1 rfl ?_
      refine mj_r_if_le rfl (fun z2 => absurd z2 (eoc)) (fun z2 => ?_)
      iterate 2 (refine mj_r_pure rfl rfl ?_)
      refine mj_r_getf rfl rfl R.1 rfl ?_
      iterate 2 (refine mj_r_pure rfl rfl ?_)
      refine mj_r_putf rfl rfl R.1 rfl (Or.inl rfl) rfl rfl ?_
      refine mj_r_pure rfl rfl ?_
      refine mj_r_cV0 (ci := 2)  rfl li_Court_93 ck_Court_countForDisputes iv_Court_countForDisputes (by decide) ((K_count _ _ od to md oc fc fd nx nc nd (T + i + 1) R1 P1)) rfl rfl (Nat.le_of_ble_eq_true rfl) rfl R1.1 ?_
      rintro _ h2 _ ⟨rfl, rfl, hf2, od2, oc2, R2, P2⟩ _
      refine mj_r_pure rfl rfl ?_
      refine mj_r_cV0 (ci := 2)  rfl li_Court_96 ck_Court_acceptQuietClaims iv_Court_acceptQuietClaims (by decide) ((K_acc _ _ od2 to md oc2 fc fd nx nc nd (T + i + 1) (by omega) R2 P2)) rfl rfl (Nat.le_of_ble_eq_true rfl) rfl R2.1 ?_
      rintro _ h3 _ ⟨rfl, rfl, hf3, od3, oc3, R3, P3⟩ _
      iterate 2 (refine mj_r_pure rfl rfl ?_)
      rw [nI_1]; exact e h3 od3 oc3 (by omega) R3 P3 (((hf.so (Or.inr (Or.inl rfl))).tr hf2).tr hf3)
set_option maxRecDepth 20000 in
set_option maxHeartbeats 4000000 in
theorem K_pass (h : mj_H) (S : rf_S) (od to : Nat → Int32) (md : Nat → Int64) (oc : Int32) (fc fd : Nat → Option Nat) (nx nc nd T n : Nat) (hT : T + n < 2 ^ 28) (R : cS h S od to md oc fc fd nx nc nd) (P : pAll S nc nd T od oc to md) : mj_K me_Court_pass [.ref 17, .int (nI n)] h nx 0 0 (fun r h' nx' => r = none ∧ nx = nx' ∧ fC h h' ∧ ∃ od' oc', cS h' (sp_tN S nc nd n) od' to md oc' fc fd nx nc nd ∧ pAll (sp_tN S nc nd n) nc nd (T + n) od' oc' to md) := by
  refine mj_K.of ok_Court_pass ck_Court_pass (Nat.le_of_ble_eq_true rfl) ?_
  obtain ⟨t0, t1, t2, t3⟩ := P.2.2.2
  refine mj_r_pure rfl rfl ?_
  refine mj_r_getf rfl rfl R.1 rfl ?_
  rw [t1]
  iterate 5 (refine mj_r_pure rfl rfl ?_)
  refine cl_pass hT t1 t2 (fun h' od' oc' R' P' hf => ?_) n 0 h od oc (by omega) R P (fC.rf h)
  exact ⟨rfl, rfl, hf, od', oc', R', P'⟩
/-- claims, disputes, purses, time are as S says -/
def iC (h : mj_H) (S : rf_S) (nx nc nd T : Nat) : Prop := ∃ od to md oc fc fd, cS h S od to md oc fc fd nx nc nd ∧ pAll S nc nd T od oc to md
/-- what a call does to the court -/
abbrev cKc (M : mj_M) (as : List Value) (h : mj_H) (nx nc nd T : Nat) (P : Int32 × rf_S) : Prop := mj_K M as h nx 0 0 (fun r h' nx' => r = some (.int P.1) ∧ nx = nx' ∧ fC h h' ∧ iC h' P.2 nx nc nd T)
theorem cc {P : Int32 × rf_S} {v : Int32} {S' : rf_S} {h h' : mj_H} {nx nc nd T : Nat} (e : P = (v, S')) (f : fC h h') (i : iC h' S' nx nc nd T) : some (Value.int v) = some (.int P.1) ∧ nx = nx ∧ fC h h' ∧ iC h' P.2 nx nc nd T := by subst e; exact ⟨rfl, rfl, f, i⟩
theorem iC.mono {h : mj_H} {S : rf_S} {nx nc nd T T' : Nat} (i : iC h S nx nc nd T) (hT : T ≤ T') : iC h S nx nc nd T' := by
  obtain ⟨od, to, md, oc, fc, fd, R, P⟩ := i
  exact ⟨od, to, md, oc, fc, fd, R, P.mono hT⟩
set_option maxRecDepth 20000 in
set_option maxHeartbeats 4000000 in
theorem K_Top_tick (h : mj_H) (S : rf_S) (nx nb pa nc nd T : Nat) (n : Int32) (hT : T + 200 < 2 ^ 28) (ht : h.1 9 0 = some (oTop nb pa)) (hi : iC h S nx nc nd T) : cKc me_Top_tick [.ref 0, .int n] h nx nc nd (T + 200) (sp_tick S n nc nd) := by
  refine mj_K.of ok_Top_tick ck_Top_tick (Nat.le_of_ble_eq_true rfl) ?_
  obtain ⟨od, to, md, oc, fc, fd, R, P⟩ := id hi
  by_cases c : 0 ≤ n ∧ n ≤ 200
  · obtain ⟨j, hj, rfl⟩ := le_nat c.1
    have hj2 : j ≤ 200 := (nI_leI (a := j) (b := 200) hj (by omega)).mp c.2
    rw [show sp_tick S (nI j) nc nd = ((sp_tN S nc nd j).1 13 0, sp_tN S nc nd j) by rw [sp_tick, if_pos c, nI_clamp hj]]
    refine mj_r_pure rfl rfl ?_
    refine mj_r_if_lt rfl (fun z1 => absurd z1 (nI_pos hj)) (fun z1 => ?_)
    iterate 2 (refine mj_r_pure rfl rfl ?_)
    refine mj_r_icmp_le rfl (fun z2 => ?_) (fun z2 => absurd z2 (fun q => q c.2))
    refine mj_r_pure rfl rfl ?_
    refine mj_r_getf rfl rfl ht rfl ?_
    refine mj_r_pure rfl rfl ?_
    refine mj_r_cV0 (ci := 2)  rfl li_Top_205 ck_Court_pass iv_Court_pass (by decide) ((K_pass _ S od to md oc fc fd nx nc nd T j (by omega) R P)) rfl rfl (Nat.le_of_ble_eq_true rfl) rfl R.1 ?_
    rintro _ h2 _ ⟨rfl, rfl, hf, od2, oc2, R2, P2⟩ _
    refine mj_r_pure rfl rfl ?_
    refine mj_r_getf rfl rfl (show h2.1 9 0 = some (oTop nb pa) by rw [hf.1 9 (by decide) (by decide) (by decide)]; exact ht) rfl ?_
    refine mj_r_getf rfl rfl R2.1 rfl ?_
    exact mj_r_iret rfl rfl rfl ((cc rfl hf ⟨od2, to, md, oc2, fc, fd, R2, P2.mono (by omega)⟩))
  · rw [show sp_tick S n nc nd = (-1, S) by rw [sp_tick, if_neg c]]
    refine mj_r_pure rfl rfl ?_
    refine mj_r_if_lt rfl (fun z1 => ?_) (fun z1 => ?_)
    · refine mj_r_pure rfl rfl ?_
      exact mj_r_iret rfl rfl rfl ((cc rfl (fC.rf h) (hi.mono (by omega))))
    · iterate 2 (refine mj_r_pure rfl rfl ?_)
      refine mj_r_icmp_le rfl (fun z2 => ?_) (fun z2 => ?_)
      · exact absurd ⟨nlt0_le z1, z2⟩ c
      · refine mj_r_pure rfl rfl ?_
        exact mj_r_iret rfl rfl rfl ((cc rfl (fC.rf h) (hi.mono (by omega))))
