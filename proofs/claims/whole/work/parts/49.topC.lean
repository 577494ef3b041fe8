/-! the class: clear, claim -/
def fil (f : Nat → Int32) : Nat → (Nat → Int32)
  | 0 => f
  | n + 1 => upd (fil f n) n 1000
theorem fil_sp (S : rf_S) (n : Nat) : (sp_fill S n).1 14 = fil (S.1 14) n := by
  induction n with
  | zero => rfl
  | succ n ih =>
    show upd ((sp_fill S n).1 14) n 1000 = upd (fil (S.1 14) n) n 1000
    rw [ih]
theorem fil_kp (S : rf_S) (n : Nat) : kp [14] S (sp_fill S n) := by
  induction n with
  | zero => exact kp.rf S
  | succ n ih => exact ih.a (by decide) _ _
set_option maxRecDepth 20000 in
set_option maxHeartbeats 4000000 in
theorem K_Court_restart (h : mj_H) (nx : Nat) (nc oc nd t : Int32) (Pu : Nat → Int32) (h2 : h.1 2 17 = some (oCrt nc oc nd t)) (h18 : h.2.1 18 = some (8, Pu)) : cK me_Court_restart [.ref 17] h nx none (mj_so (mj_si h 18 8 (fil Pu 8)) 2 17 (oCrt 0 0 0 0)) := by
  refine mj_K.of ok_Court_restart ck_Court_restart (Nat.le_of_ble_eq_true rfl) ?_
  have go : ∀ (d i : Nat), i + d = 8 → mj_W me_Court_restart 2 [(0, .ref 17), (1, .int (nI i))] [] (mj_si h 18 8 (fil Pu i)) mj_0 nx 0 0 (fun _ => True, fun r h2 _ nx' => r = none ∧ h2 = mj_so (mj_si h 18 8 (fil Pu 8)) 2 17 (oCrt 0 0 0 0) ∧ nx = nx') := by
    intro d
    induction d with
    | zero =>
      intro i hi
      have e : i = 8 := by omega
      subst e
      iterate 2 (refine mj_r_pure rfl rfl ?_)
      refine mj_r_icmp_ge rfl (fun c1 => ?_) (fun c1 => absurd c1 (fun q => q (nI_le (a := 8) (b := 8) (Nat.le_refl _) (by omega))))
      iterate 2 (refine mj_r_pure rfl rfl ?_)
      refine mj_r_putf rfl rfl h2 rfl (Or.inl rfl) rfl rfl ?_
      iterate 2 (refine mj_r_pure rfl rfl ?_)
      refine mj_r_putf rfl rfl so_self rfl (Or.inl rfl) rfl rfl ?_
      iterate 2 (refine mj_r_pure rfl rfl ?_)
      refine mj_r_putf rfl rfl so_self rfl (Or.inl rfl) rfl rfl ?_
      iterate 2 (refine mj_r_pure rfl rfl ?_)
      refine mj_r_putf rfl rfl so_self rfl (Or.inl rfl) rfl rfl ?_
      exact mj_r_ret rfl rfl ⟨rfl, by simp only [so_so], rfl⟩
    | succ d ih =>
      intro i hi
      have e := ih (i + 1) (by omega)
      iterate 2 (refine mj_r_pure rfl rfl ?_)
      refine mj_r_icmp_ge rfl (fun c1 => absurd c1 (nI_ge (a := i) (b := 8) (by omega) (by omega))) (fun c1 => ?_)
      refine mj_r_pure rfl rfl ?_
      refine mj_r_getf rfl rfl h2 rfl ?_
      iterate 2 (refine mj_r_pure rfl rfl ?_)
      refine cx_iast rfl rfl (by first | rfl | assumption) (by omega) ?_
      iterate 2 (refine mj_r_pure rfl rfl ?_)
      rw [nI_1, si_si]; exact e
  have e0 : h = mj_si h 18 8 (fil Pu 0) := (si_id h18).symm
  rw [show mj_W me_Court_restart 0 _ _ h = mj_W me_Court_restart 0 _ _ (mj_si h 18 8 (fil Pu 0)) by rw [← e0]]
  iterate 2 (refine mj_r_pure rfl rfl ?_)
  exact go 8 0 rfl
set_option maxRecDepth 20000 in
set_option maxHeartbeats 4000000 in
theorem K_Top_clear (h : mj_H) (S : rf_S) (nx nb pa nc nd T : Nat) (ht : h.1 9 0 = some (oTop nb pa)) (hi : iC h S nx nc nd T) : cKc me_Top_clear [.ref 0] h nx 0 0 T (sp_clear S) := by
  refine mj_K.of ok_Top_clear ck_Top_clear (Nat.le_of_ble_eq_true rfl) ?_
  obtain ⟨od, to, md, oc, fc, fd, R, P⟩ := id hi
  have hnc := P.1.1.2.2.1
  have kk := fil_kp (sI (sI (sI S 15 0) 21 0) 13 0) 8
  have e14 := fil_sp (sI (sI (sI S 15 0) 21 0) 13 0) 8
  have e14 : (sp_fill (sI (sI (sI S 15 0) 21 0) 13 0) 8).1 14 = fil (S.1 14) 8 := e14
  have hV : (sp_clear S).2 = sp_fill (sI (sI (sI S 15 0) 21 0) 13 0) 8 := rfl
  have eV : sp_clear S = (nI nc, sp_fill (sI (sI (sI S 15 0) 21 0) 13 0) 8) := by rw [← hnc]; rfl
  rw [eV]
  generalize sp_fill (sI (sI (sI S 15 0) 21 0) 13 0) 8 = V at kk e14
  have e15 : V.1 15 0 = 0 := by rw [kk.1 15 (by decide)]; rfl
  have e21 : V.1 21 0 = 0 := by rw [kk.1 21 (by decide)]; rfl
  have e13 : V.1 13 0 = 0 := by rw [kk.1 13 (by decide)]; rfl
  have eI : iC (mj_so (mj_si h 18 8 (fil (S.1 14) 8)) 2 17 (oCrt 0 0 0 0)) V nx 0 0 T := by
    refine ⟨od, to, md, 0, fc, fd, ?_, ⟨⟨e21, by omega, e15, by omega, fun d hd => absurd hd (by omega), fun d hd => absurd hd (by omega), fun d hd => absurd hd (by omega)⟩, fun c hc => absurd hc (by omega), rfl, fun d hd => absurd hd (by omega)⟩, fun d hd => absurd hd (by omega), fun d hd => absurd hd (by omega), 0, e13, by omega, fun c hc => absurd hc (by omega)⟩
    show cR _ (Cof V od) (Dof V fc to md) (V.1 14) 0 (V.1 13 0) fc fd nx 0 0
    rw [e14, e13]
    exact ⟨rfl, rfl, R.2.2.1, R.2.2.2.1, fun c hc => absurd hc (by omega), fun c hc => absurd hc (by omega), fun i j hi => absurd hi (by omega), fun i j hi => absurd hi (by omega)⟩
  refine mj_r_pure rfl rfl ?_
  refine mj_r_getf rfl rfl ht rfl ?_
  refine mj_r_getf rfl rfl R.1 rfl ?_
  iterate 2 (refine mj_r_pure rfl rfl ?_)
  refine mj_r_getf rfl rfl ht rfl ?_
  refine mj_r_cV0 (ci := 2)  rfl li_Top_254 ck_Court_restart iv_Court_restart (by decide) ((K_Court_restart _ nx _ _ _ _ _ R.1 R.2.1)) rfl rfl (Nat.le_of_ble_eq_true rfl) rfl R.1 ?_
  rintro _ _ _ ⟨rfl, rfl, rfl⟩ _
  refine mj_r_pure rfl rfl ?_
  exact mj_r_iret rfl rfl rfl ((cc rfl (((fC.rf _).si).so (Or.inr (Or.inl rfl))) eI))
/-- a call that may make one object -/
abbrev cKn (M : mj_M) (as : List Value) (h : mj_H) (nx T ms : Nat) (P : Int32 × rf_S) (G : rf_S → Nat → Nat → Prop) : Prop := mj_K M as h nx 1 ms (fun r h' nx' => r = some (.int P.1) ∧ (nx ≤ nx' ∧ nx' ≤ nx + 1) ∧ (∃ m nd, fC (cX h m nd) h') ∧ ∃ nc nd, iC h' P.2 nx' nc nd T ∧ G P.2 nc nd)
theorem cn {P : Int32 × rf_S} {v : Int32} {S' : rf_S} {h h' : mj_H} {nx nx' nc nd T : Nat} {G : rf_S → Nat → Nat → Prop} {m : mS} {ndf : Nat → Int64} (e : P = (v, S')) (hx : nx ≤ nx' ∧ nx' ≤ nx + 1) (f : fC (cX h m ndf) h') (i : iC h' S' nx' nc nd T) (g : G S' nc nd) : some (Value.int v) = some (.int P.1) ∧ (nx ≤ nx' ∧ nx' ≤ nx + 1) ∧ (∃ m nd, fC (cX h m nd) h') ∧ ∃ nc nd, iC h' P.2 nx' nc nd T ∧ G P.2 nc nd := by subst e; exact ⟨rfl, hx, ⟨m, ndf, f⟩, nc, nd, i, g⟩
/-- at most four at a claim; claims have batches -/
def p4 (nb : Nat) (S : rf_S) (nc nd : Nat) : Prop := (∀ c, c < nc → sp_open S (nI c) nd ≤ 4) ∧ ∀ c, c < nc → ∃ b, b < nb ∧ S.1 17 c = nI b
theorem cnt_mono {p q : Nat → Bool} {n : Nat} (h : ∀ i, i < n → p i = true → q i = true) : cnt p n ≤ cnt q n := by
  induction n with
  | zero => exact Nat.le_refl _
  | succ n ih =>
    unfold cnt
    have h1 := ih (fun i hi => h i (by omega))
    have h2 := h n (by omega)
    cases hp : p n with
    | false => simp only [Bool.false_eq_true, if_false]; omega
    | true => rw [h2 hp]; omega
/-- S' with a claim more -/
def sp_cl1 (S : rf_S) (nc p : Nat) (b : Int32) (dg : Int64) : rf_S := sI (sA (sA (sL (sA (sA (sA S 14 p (S.1 14 p - 100)) 16 nc (nI p)) 17 nc b) 18 nc dg) 19 nc 0) 20 nc (S.1 13 0)) 15 (nI nc + 1)
theorem pAll.claim {S : rf_S} {nc nd T p : Nat} {od to : Nat → Int32} {md : Nat → Int64} {oc b : Int32} {dg : Int64} (P : pAll S nc nd T od oc to md) (hnc : nc < 40) (hp : p < 8) : pAll (sp_cl1 S nc p b dg) (nc + 1) nd T (upd od nc 0) (oc + 1) to md := by
  obtain ⟨⟨hw, h1, h2, h3⟩, PK, PT, t, t1, t2, t3⟩ := P
  obtain ⟨w1, w2, w3, w4, w5, w6, w7⟩ := hw
  refine ⟨⟨⟨w1, w2, ?_, by omega, fun d hd => ?_, w6, fun c hc => ?_⟩, fun c hc => ?_, ?_, fun d hd h0 => ?_⟩, PK, PT, t, t1, t2, fun c hc h0 => ?_⟩
  · show nI nc + 1 = nI (nc + 1)
    exact nI_1 nc
  · obtain ⟨c, c1, c2⟩ := w5 d hd
    exact ⟨c, by omega, c2⟩
  · show ∃ q, q < 8 ∧ upd (S.1 16) nc (nI p) c = nI q
    by_cases e : c = nc
    · rw [e, pk_us]; exact ⟨p, hp, rfl⟩
    · rw [pk_un e]; exact w7 c (by omega)
  · by_cases e : c = nc
    · rw [e, pk_us]
      have : sp_open (sp_cl1 S nc p b dg) (nI nc) nd = 0 := cnt_z (fun i hi => isO_f (fun q => by
        obtain ⟨c', c1, c2⟩ := w5 i hi
        have q1 : S.1 23 i = nI nc := q.1
        rw [c2] at q1
        have := (nI_eq (by omega) (by omega)).mp q1
        omega))
      rw [this]
      rfl
    · rw [pk_un e]
      exact h1 c (by omega)
  · show oc + 1 = nI (nOp (sp_cl1 S nc p b dg) nc + (if decide (upd (S.1 19) nc 0 nc = 0) then 1 else 0))
    rw [if_pos (decide_eq_true (pk_us)), ← nI_1, h2]
    refine congrArg (fun z => nI z + 1) (cnt_ag (fun i hi => ?_))
    show _ = decide (upd (S.1 19) nc 0 i = 0)
    rw [pk_un (by omega)]
  · show upd (S.1 19) nc 0 (S.1 23 d).toNatClampNeg = 0
    obtain ⟨c', c1, c2⟩ := w5 d hd
    rw [pk_un (by rw [c2, nI_clamp (by omega)]; omega)]
    exact h3 d hd h0
  · show ∃ u : Nat, u ≤ t ∧ upd (S.1 20) nc (S.1 13 0) c = nI u
    by_cases e : c = nc
    · rw [e, pk_us]; exact ⟨t, Nat.le_refl _, t1⟩
    · rw [pk_un e]
      have h0 : upd (S.1 19) nc 0 c = 0 := h0
      rw [pk_un e] at h0
      exact t3 c (by omega) h0
theorem p4.claim {S : rf_S} {nb nc nd p b : Nat} {dg : Int64} (P : p4 nb S nc nd) (hw : wf_D S nc nd) (hnc : nc < 40) (hb : b < nb) : p4 nb (sp_cl1 S nc p (nI b) dg) (nc + 1) nd := by
  refine ⟨fun c hc => ?_, fun c hc => ?_⟩
  · by_cases e : c = nc
    · have : sp_open (sp_cl1 S nc p (nI b) dg) (nI c) nd = 0 := cnt_z (fun i hi => isO_f (fun q => by
        obtain ⟨c', c1, c2⟩ := hw.2.2.2.2.1 i hi
        have q1 : S.1 23 i = nI c := q.1
        rw [c2] at q1
        have := (nI_eq (by omega) (by omega)).mp q1
        omega))
      omega
    · exact P.1 c (by omega)
  · show ∃ z, z < nb ∧ upd (S.1 17) nc (nI b) c = nI z
    by_cases e : c = nc
    · rw [e, pk_us]; exact ⟨b, hb, rfl⟩
    · rw [pk_un e]; exact P.2 c (by omega)
theorem cS.claim {h : mj_H} {S : rf_S} {od to : Nat → Int32} {md : Nat → Int64} {oc b : Int32} {dg : Int64} {fc fd : Nat → Option Nat} {nx nc nd p : Nat} (R : cS h S od to md oc fc fd nx nc nd) (hw : wf_D S nc nd) : cS (mj_so (mj_sr (mj_so (mj_si h 18 8 (upd (S.1 14) p (S.1 14 p - 100))) 1 nx (oClm (nI nc) (nI p) b dg 0 0 (S.1 13 0))) 1 19 40 (va_up fc nc (some nx))) 2 17 (oCrt (nI nc + 1) (oc + 1) (nI nd) (S.1 13 0))) (sp_cl1 S nc p b dg) (upd od nc 0) to md (oc + 1) (va_up fc nc (some nx)) fd (nx + 1) (nc + 1) nd := by
  have h40 := hw.2.2.2.1
  refine ((R.setP (upd (S.1 14) p (S.1 14 p - 100))).newC (oClm (nI nc) (nI p) b dg 0 0 (S.1 13 0)) (oc + 1)).ext (fun j hj => ?_) (fun j hj => ?_)
  · show oClm (nI j) (upd (S.1 16) nc (nI p) j) (upd (S.1 17) nc b j) (vp_updL (S.2 18) nc dg j) (upd (S.1 19) nc 0 j) (upd od nc 0 j) (upd (S.1 20) nc (S.1 13 0) j) = _
    by_cases e : j = nc
    · subst e
      rw [ul_s, pk_us, pk_us, pk_us, pk_us, pk_us, pk_uLs]
    · rw [ul_n e, pk_un e, pk_un e, pk_un e, pk_un e, pk_un e, pk_uLn e]
      rfl
  · show oDis (S.1 22 j) ((va_up fc nc (some nx) (S.1 23 j).toNatClampNeg).getD 0) (S.1 24 j) (S.1 25 j) (S.1 26 j) (S.2 27 j) (S.2 28 j) (to j) (md j) (S.1 31 j) (S.1 32 j) (S.1 33 j) = _
    obtain ⟨c', c1, c2⟩ := hw.2.2.2.2.1 j hj
    rw [vu_n (by rw [c2, nI_clamp (by omega)]; omega)]
    rfl
set_option maxRecDepth 20000 in
set_option maxHeartbeats 4000000 in
theorem K_Top_claim (h : mj_H) (S : rf_S) (nx nb dr nc nd T : Nat) (p b : Int32) (dg : Int64) (hb : iB h S nx nb dr) (hm : iM h) (hi : iC h S nx nc nd T) (h4 : p4 nb S nc nd) : cKn me_Top_claim [.ref 0, .int p, .int b, .long dg] h nx T 7 (sp_claim S p b dg) (p4 nb) := by
  refine mj_K.of ok_Top_claim ck_Top_claim (Nat.le_of_ble_eq_true rfl) ?_
  obtain ⟨m0, nd0, q1, q2, q3⟩ := hm
  have eh := cX_id q1 q2 q3
  have ff : ∀ {h'}, fC h h' → fC (cX h m0 nd0) h' := fun q => by rw [eh]; exact q
  obtain ⟨od, to, md, oc, fc, fd, R, P⟩ := id hi
  obtain ⟨h8, hnb, hdr, pa, la, fb, ht, hfb, hd, hbs⟩ := hb
  have hnc := P.1.1.2.2.1
  have h40 := P.1.1.2.2.2.1
  by_cases c : isN b (S.1 5 0)
  · obtain ⟨bb, hbb, rfl⟩ := isN_nat (n := nb) (by omega) (by rw [← hnb]; exact c)
    obtain ⟨a, pp, l, fa, n, F, hf, g1, g2, -⟩ := hbs bb hbb
    by_cases cc0 : isN p 8 ∧ ¬ S.1 14 p.toNatClampNeg < 100 ∧ nI nc < 40
    · obtain ⟨j, hj, rfl⟩ := isN_nat (n := 8) (by omega) cc0.1
      have ej : (nI j).toNatClampNeg = j := nI_clamp (by omega)
      rw [ej] at cc0
      have hlt : nc < 40 := (nI_ltI (a := nc) (b := 40) (by omega) (by omega)).mp cc0.2.2
      have esp : sp_claim S (nI j) (nI bb) dg = (nI nc + 1 - 1, sp_cl1 S nc j (nI bb) dg) := by
        rw [sp_claim, ej, if_pos ⟨cc0.1, c, cc0.2.1, fun q => by have := hnc.symm.trans q; have := (nI_eq (a := nc) (b := 40) (by omega) (by omega)).mp this; omega⟩, hnc, nI_clamp (by omega)]
        rfl
      have eR := R.claim (b := nI bb) (dg := dg) (p := j) P.1.1
      rw [Int32.sub_eq_add_neg] at eR
      iterate 2 (refine mj_r_pure rfl rfl ?_)
      refine mj_r_cV0 (ci := 9)  rfl li_Top_94 ck_Top_batchAt iv_Top_batchAt (by decide) ((K_Top_batchAt_t _ nx nb pa bb a fb h8 ht hfb hbb hf)) rfl rfl (Nat.le_of_ble_eq_true rfl) rfl ht ?_
      rintro _ _ _ ⟨rfl, rfl, rfl⟩ _
      refine mj_r_pure rfl rfl ?_
      refine mj_r_pure rfl rfl ?_
      refine mj_r_getf rfl rfl ht rfl ?_
      iterate 3 (refine mj_r_pure rfl rfl ?_)
      refine mj_r_cV (ci := 2) (kc := 0) (ks := 0) rfl li_Top_98 ck_Court_openClaim iv_Court_openClaim (by decide) ((K_Court_openClaim_t _ nx j nc oc _ _ (nI bb) dg (S.1 14) fc R.1 R.2.1 R.2.2.1 hj cc0.2.1 hlt)) rfl rfl (Nat.le_of_ble_eq_true rfl) rfl R.1 ?_
      rintro _ _ _ ⟨rfl, rfl, rfl⟩ _
      exact mj_r_iret rfl rfl rfl ((cn esp ⟨by omega, by omega⟩ (ff (((((fC.rf _).si).so (Or.inl rfl)).sr (Or.inl rfl)).so (Or.inr (Or.inl rfl)))) ⟨upd od nc 0, to, md, oc + 1, _, fd, eR, P.claim hlt hj⟩ (h4.claim P.1.1 hlt hbb)))
    · have esp : sp_claim S p (nI bb) dg = (-1, S) := by
        rw [sp_claim, if_neg (fun q => cc0 ⟨q.1, q.2.2.1, ?_⟩)]
        refine nI_lt (a := nc) (b := 40) ?_ (by omega)
        have := q.2.2.2
        rw [hnc] at this
        rcases Nat.lt_or_ge nc 40 with z | z
        · exact z
        · exact absurd (by rw [show nc = 40 by omega]; rfl) this
      iterate 2 (refine mj_r_pure rfl rfl ?_)
      refine mj_r_cV0 (ci := 9)  rfl li_Top_94 ck_Top_batchAt iv_Top_batchAt (by decide) ((K_Top_batchAt_t _ nx nb pa bb a fb h8 ht hfb hbb hf)) rfl rfl (Nat.le_of_ble_eq_true rfl) rfl ht ?_
      rintro _ _ _ ⟨rfl, rfl, rfl⟩ _
      refine mj_r_pure rfl rfl ?_
      refine mj_r_pure rfl rfl ?_
      refine mj_r_getf rfl rfl ht rfl ?_
      iterate 3 (refine mj_r_pure rfl rfl ?_)
      refine mj_r_cV (ci := 2) (kc := 0) (ks := 0) rfl li_Top_98 ck_Court_openClaim iv_Court_openClaim (by decide) ((K_Court_openClaim_f _ nx _ oc _ _ p (nI bb) dg (S.1 14) R.1 R.2.1 cc0)) rfl rfl (Nat.le_of_ble_eq_true rfl) rfl R.1 ?_
      rintro _ _ _ ⟨rfl, rfl, rfl⟩ _
      exact mj_r_iret rfl rfl rfl ((cn esp ⟨by omega, by omega⟩ (ff (fC.rf _)) hi h4))
  · have esp : sp_claim S p b dg = (-1, S) := by rw [sp_claim, if_neg (fun q => c q.2.1)]
    iterate 2 (refine mj_r_pure rfl rfl ?_)
    refine mj_r_cV0 (ci := 9)  rfl li_Top_94 ck_Top_batchAt iv_Top_batchAt (by decide) ((K_Top_batchAt_f _ nx nb pa b ht (by rw [← hnb]; exact c))) rfl rfl (Nat.le_of_ble_eq_true rfl) rfl ht ?_
    rintro _ _ _ ⟨rfl, rfl, rfl⟩ _
    refine mj_r_pure rfl rfl ?_
    iterate 2 (refine mj_r_pure rfl rfl ?_)
    exact mj_r_iret rfl rfl rfl ((cn esp ⟨by omega, by omega⟩ (ff (fC.rf _)) hi h4))
