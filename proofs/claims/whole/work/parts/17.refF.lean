/-! the reference: disputes -/
theorem sA_X (S : rf_S) (m : mS) (nd : Nat → Int64) {p : Nat} (j : Nat) (v : Int32) (h9 : Nat.beq p 9 = false) (h10 : Nat.beq p 10 = false) (h11 : Nat.beq p 11 = false) : sA (sX S m nd) p j v = sX (sA S p j v) m nd := by
  have e : (sX S m nd).1 p = S.1 p := by
    show cond (Nat.beq p 11) _ (cond (Nat.beq p 10) _ (cond (Nat.beq p 9) _ (S.1 p))) = _
    rw [h11, h10, h9]
    rfl
  rw [sA_sC, e, sA_sC]
  show sC (sD (sM S m) 12 nd) p _ = sD (sM (sC S p _) m) 12 nd
  unfold sM
  have c1 : ∀ (f : Nat → Int32) (T : rf_S), sC (sD T 12 nd) p f = sD (sC T p f) 12 nd := fun f T => rfl
  have sw : ∀ {q : Nat}, Nat.beq p q = false → Nat.beq q p = false := fun {q} h => rf_beq_ne (fun e => by rw [e, Nat.beq_refl] at h; cases h)
  rw [c1, sC_comm _ (p := 11) (p' := p) (sw h11), sC_comm _ (p := 10) (p' := p) (sw h10), sC_comm _ (p := 9) (p' := p) (sw h9)]
theorem sL_X (S : rf_S) (m : mS) (nd : Nat → Int64) {p : Nat} (j : Nat) (v : Int64) (h12 : Nat.beq p 12 = false) : sL (sX S m nd) p j v = sX (sL S p j v) m nd := by
  unfold sL sX sD
  refine Prod.ext rfl ?_
  funext q
  dsimp only
  have e : cond (Nat.beq p 12) nd ((sM S m).2 p) = S.2 p := by rw [h12]; rfl
  rw [e]
  cases hq : Nat.beq q p with
  | false => cases Nat.beq q 12 <;> first | rfl | (show (sM S m).2 q = cond (Nat.beq q p) _ (S.2 q); rw [hq]; rfl)
  | true =>
    have : q = p := Nat.eq_of_beq_eq_true hq
    subst this
    rw [h12]
    show _ = cond (Nat.beq q q) _ (S.2 q)
    rw [Nat.beq_refl]
    rfl
theorem sA_X1 (S : rf_S) (m : mS) (nd : Nat → Int64) {p : Nat} (h9 : Nat.beq p 9 = false) (h10 : Nat.beq p 10 = false) (h11 : Nat.beq p 11 = false) : (sX S m nd).1 p = S.1 p := by
    show cond (Nat.beq p 11) _ (cond (Nat.beq p 10) _ (cond (Nat.beq p 9) _ (S.1 p))) = _
    rw [h11, h10, h9]
    rfl
/-- a dispute begins: claim c of player p; its first digest t, steps n -/
def sp_dis0 (S : rf_S) (p c : Int32) (d : Nat) (t : Int64) (n : Int32) : rf_S :=
  let S1 := sA (sA (sA (sA (sA (sA (sI S 21 (S.1 21 0 + 1)) 14 p.toNatClampNeg (S.1 14 p.toNatClampNeg - 50)) 22 d p) 23 d c) 24 d 0) 25 d 0) 26 d n
  let S2 := sL (sL (sL S1 27 d t) 28 d (S.2 18 c.toNatClampNeg)) 29 d 0
  sA (sA (sA (sA S2 30 d (if n = 1 then 2 else 0)) 31 d 0) 32 d 0) 33 d 0
def sp_dispute (S : rf_S) (p c : Int32) (nd : Nat) : Int32 × rf_S :=
  if isN p 8 ∧ isN c (S.1 15 0) ∧ S.1 19 c.toNatClampNeg = 0 ∧ ¬ S.1 16 c.toNatClampNeg = p ∧ ¬ nI (sp_open S c nd) = 4 ∧ ¬ S.1 14 p.toNatClampNeg < 50 ∧ ¬ S.1 21 0 = 80 then (S.1 21 0, sp_dis0 S p c nd (m_dig (sp_M S (S.1 17 c.toNatClampNeg).toNatClampNeg 0)) (S.1 8 (S.1 17 c.toNatClampNeg).toNatClampNeg)) else (-1, S)
theorem rqX {P : Int32 × rf_S} {v : Int32} {S' : rf_S} {m : mS} {nd : Nat → Int64} {nx : Nat} (h : P = (v, S')) : some (Value.int v) = some (.int P.1) ∧ nx = nx ∧ ∃ m nd, rf_h (sX S' m nd) = rf_h (sX P.2 m nd) := by subst h; exact ⟨rfl, rfl, m, nd, rfl⟩
/-- the answer, and the state but for the scratch -/
abbrev rKx (M : mj_M) (as : List Value) (S : rf_S) (nx : Nat) (P : Int32 × rf_S) : Prop := mj_K M (.ref 21 :: as) (rf_h S) nx 0 0 (fun r h' nx' => r = some (.int P.1) ∧ nx = nx' ∧ ∃ m nd, h' = rf_h (sX P.2 m nd))
theorem rx0 {P : Int32 × rf_S} {v : Int32} {S' : rf_S} {nx : Nat} (h : P = (v, S')) : some (Value.int v) = some (.int P.1) ∧ nx = nx ∧ ∃ m nd, rf_h S' = rf_h (sX P.2 m nd) := by subst h; exact ⟨rfl, rfl, sp_m S', S'.2 12, rf_sX0.symm⟩
theorem rx1 {P : Int32 × rf_S} {v : Int32} {S' T : rf_S} {m : mS} {nd : Nat → Int64} {nx : Nat} (h : P = (v, S')) (e : T = sX S' m nd) : some (Value.int v) = some (.int P.1) ∧ nx = nx ∧ ∃ m nd, rf_h T = rf_h (sX P.2 m nd) := by subst h; subst e; exact ⟨rfl, rfl, m, nd, rfl⟩
set_option maxRecDepth 20000 in
set_option maxHeartbeats 4000000 in
theorem K_Ref_dispute_open (hrot : ∀ a c : Int32, sp_rotR a c = sp_rot a c) (S : rf_S) (p c : Int32) (nx nc nd nb : Nat) (hS : wf_P S) (hnb : S.1 5 0 = nI nb) (h8 : nb ≤ 8) (hnc : S.1 15 0 = nI nc) (h40 : nc ≤ 40) (hnd : S.1 21 0 = nI nd) (h80 : nd ≤ 80) (hcb : ∀ c, c < nc → ∃ b, b < nb ∧ S.1 17 c = nI b) (hst : ∀ b, b < nb → 0 ≤ S.1 8 b) : rKx me_Ref_dispute [.int p, .int c] S nx (sp_dispute S p c nd) := by
  refine mj_K.of ok_Ref_dispute ck_Ref_dispute (Nat.le_of_ble_eq_true rfl) ?_
  by_cases a1 : isN p 8
  · obtain ⟨j, hj, rfl⟩ := isN_nat (n := 8) (by omega) a1
    have ej : (nI j).toNatClampNeg = j := nI_clamp (by omega)
    by_cases a2 : isN c (S.1 15 0)
    · obtain ⟨i, hi, rfl⟩ := isN_nat (n := nc) (by omega) (by rw [← hnc]; exact a2)
      have ei : (nI i).toNatClampNeg = i := nI_clamp (by omega)
      obtain ⟨b, hb, hb2⟩ := hcb i hi
      have eb : (nI b).toNatClampNeg = b := nI_clamp (by omega)
      refine mj_r_pure rfl rfl ?_
      refine mj_r_callS (kc := 0) (ks := 0) rfl li_Ref_165 ck_Ref_isPlayer iv_Ref_isPlayer (by decide) rfl (K_Ref_isPlayer _ _ nx) rfl rfl (Nat.le_of_ble_eq_true rfl) ?_
      rintro _ _ _ ⟨rfl, rfl, rfl⟩ _
      rw [bI_t a1]
      refine mj_r_if_eq rfl (fun c1 => absurd c1 (by decide)) (fun c1 => ?_)
      iterate 2 (refine mj_r_pure rfl rfl ?_)
      refine mj_r_callV (ci := 10) (kc := 0) (ks := 0) rfl li_Ref_171 ck_Ref_isClaim iv_Ref_isClaim (by decide) rfl rfl (K_Ref_isClaim S _ nx) rfl rfl (Nat.le_of_ble_eq_true rfl) ?_
      rintro _ _ _ ⟨rfl, rfl, rfl⟩ _
      rw [bI_t a2]
      refine mj_r_if_eq rfl (fun c2 => absurd c2 (by decide)) (fun c2 => ?_)
      refine mj_r_pure rfl rfl ?_
      refine rr_get rfl rfl rfl ?_
      refine mj_r_pure rfl rfl ?_
      refine rx_iald rfl rfl (by first | rfl | assumption) (by omega) ?_
      refine mj_r_if_ne rfl (fun c3 => ?_) (fun c3 => ?_)
      · refine mj_r_pure rfl rfl ?_
        exact mj_r_iret rfl rfl rfl (rx0 (by refine if_neg (fun q => ?_); have z := q.2.2.1; rw [ei] at z; exact c3 z))
      · refine mj_r_pure rfl rfl ?_
        refine rr_get rfl rfl rfl ?_
        refine mj_r_pure rfl rfl ?_
        refine rx_iald rfl rfl (by first | rfl | assumption) (by omega) ?_
        refine mj_r_pure rfl rfl ?_
        refine mj_r_icmp_eq rfl (fun c4 => ?_) (fun c4 => ?_)
        · refine mj_r_pure rfl rfl ?_
          exact mj_r_iret rfl rfl rfl (rx0 (by refine if_neg (fun q => ?_); have z := q.2.2.2.1; rw [ei] at z; exact z c4))
        · iterate 2 (refine mj_r_pure rfl rfl ?_)
          refine mj_r_callV (ci := 10) (kc := 0) (ks := 0) rfl li_Ref_174 ck_Ref_openAt iv_Ref_openAt (by decide) rfl rfl (K_Ref_openAt S _ nx nd hnd h80) rfl rfl (Nat.le_of_ble_eq_true rfl) ?_
          rintro _ _ _ ⟨rfl, rfl, rfl⟩ _
          refine mj_r_pure rfl rfl ?_
          refine mj_r_icmp_eq rfl (fun c5 => ?_) (fun c5 => ?_)
          · refine mj_r_pure rfl rfl ?_
            exact mj_r_iret rfl rfl rfl (rx0 (by refine if_neg (fun q => ?_); exact q.2.2.2.2.1 c5))
          · refine mj_r_pure rfl rfl ?_
            refine rr_get rfl rfl rfl ?_
            refine mj_r_pure rfl rfl ?_
            refine rx_iald rfl rfl (by first | rfl | assumption) (by omega) ?_
            refine mj_r_pure rfl rfl ?_
            refine mj_r_icmp_lt rfl (fun c6 => ?_) (fun c6 => ?_)
            · refine mj_r_pure rfl rfl ?_
              exact mj_r_iret rfl rfl rfl (rx0 (by refine if_neg (fun q => ?_); have z := q.2.2.2.2.2.1; rw [ej] at z; exact z c6))
            · refine mj_r_pure rfl rfl ?_
              refine rr_get rfl rfl rfl ?_
              refine mj_r_pure rfl rfl ?_
              refine mj_r_icmp_ne rfl (fun c7 => ?_) (fun c7 => ?_)
              · have hlt : nd < 80 := by
                  rcases Nat.lt_or_ge nd 80 with q | q
                  · exact q
                  · exact absurd (hnd.trans (by rw [show nd = 80 by omega]; rfl)) c7
                refine mj_r_pure rfl rfl ?_
                refine rr_get rfl rfl rfl ?_
                iterate 3 (refine mj_r_pure rfl rfl ?_)
                refine rr_get rfl rfl rfl ?_
                iterate 2 (refine mj_r_pure rfl rfl ?_)
                refine rr_putI rfl rfl (by decide) ?_
                refine mj_r_pure rfl rfl ?_
                refine rr_get rfl rfl rfl ?_
                iterate 2 (refine mj_r_pure rfl rfl ?_)
                refine rx_iald rfl rfl (by first | rfl | assumption) (by omega) ?_
                iterate 2 (refine mj_r_pure rfl rfl ?_)
                refine rx_iast rfl rfl (by first | rfl | assumption) (by omega) ?_
                refine mj_r_pure rfl rfl ?_
                refine rr_get rfl rfl rfl ?_
                iterate 2 (refine mj_r_pure rfl rfl ?_)
                refine rx_iast rfl rfl hnd (by omega) ?_
                refine mj_r_pure rfl rfl ?_
                refine rr_get rfl rfl rfl ?_
                iterate 2 (refine mj_r_pure rfl rfl ?_)
                refine rx_iast rfl rfl hnd (by omega) ?_
                refine mj_r_pure rfl rfl ?_
                refine rr_get rfl rfl rfl ?_
                iterate 2 (refine mj_r_pure rfl rfl ?_)
                refine rx_iast rfl rfl hnd (by omega) ?_
                refine mj_r_pure rfl rfl ?_
                refine rr_get rfl rfl rfl ?_
                iterate 2 (refine mj_r_pure rfl rfl ?_)
                refine rx_iast rfl rfl hnd (by omega) ?_
                refine mj_r_pure rfl rfl ?_
                refine rr_get rfl rfl rfl ?_
                iterate 2 (refine mj_r_pure rfl rfl ?_)
                refine rr_get rfl rfl rfl ?_
                refine mj_r_pure rfl rfl ?_
                refine rr_get rfl rfl rfl ?_
                refine mj_r_pure rfl rfl ?_
                refine rx_iald rfl rfl (by first | rfl | assumption) (by omega) ?_
                refine rx_iald rfl rfl (by first | rfl | assumption) (by omega) ?_
                refine rx_iast rfl rfl hnd (by omega) ?_
                change mj_W _ _ _ _ (rf_h (sA (sA (sA (sA (sA (sA (sI S 21 (S.1 21 0 + 1)) 14 j (S.1 14 j - 50)) 22 nd (nI j)) 23 nd (nI i)) 24 nd 0) 25 nd 0) 26 nd (S.1 8 b))) _ _ _ _ _
                generalize hT : sA (sA (sA (sA (sA (sA (sI S 21 (S.1 21 0 + 1)) 14 j (S.1 14 j - 50)) 22 nd (nI j)) 23 nd (nI i)) 24 nd 0) 25 nd 0) 26 nd (S.1 8 b) = T
                refine mj_r_pure rfl rfl ?_
                refine rr_get rfl rfl rfl ?_
                iterate 3 (refine mj_r_pure rfl rfl ?_)
                refine rr_get rfl rfl rfl ?_
                refine mj_r_pure rfl rfl ?_
                refine rx_iald rfl rfl (by first | rfl | assumption) (by omega) ?_
                refine mj_r_pure rfl rfl ?_
                have hTS : T.1 17 i = S.1 17 i := by rw [← hT]; rfl
                have htr : sp_truth T (T.1 17 i) 0 = m_dig (sp_M S b 0) := by
                  have e1 : isN (T.1 17 i) (T.1 5 0) := by rw [hTS, hb2, ← hT]; show isN (nI b) (S.1 5 0); rw [hnb]; exact nat_isN hb (by omega)
                  have e2 : (0 : Int32) ≤ T.1 8 (T.1 17 i).toNatClampNeg := by rw [hTS, hb2, eb, ← hT]; exact hst b hb
                  refine (if_pos ⟨e1, nI_pos' (n := 0) (by omega), e2⟩).trans ?_
                  rw [hTS, hb2, eb, ← hT]
                  rfl
                have hdis : ∀ {z : Int32} {m : mS} {ndf : Nat → Int64}, (if S.1 8 b = 1 then 2 else 0) = z → sX (sA (sA (sA (sA (sL (sL (sL T 27 nd (sp_truth T (T.1 17 i) 0)) 28 nd (T.2 18 i)) 29 nd 0) 30 nd z) 31 nd 0) 32 nd 0) 33 nd 0) m ndf = sX (sp_dis0 S (nI j) (nI i) nd (m_dig (sp_M S b 0)) (S.1 8 b)) m ndf := fun hz => by rw [htr, ← hT, ← hz]; unfold sp_dis0; rw [ej, ei]; rfl
                have h26 : T.1 26 nd = S.1 8 b := by rw [← hT]; exact pk_us
                refine mj_r_callV (ci := 10) (kc := 0) (ks := 0) rfl li_Ref_177 ck_Ref_truth iv_Ref_truth (by decide) rfl rfl ((K_Ref_truth_open hrot T (T.1 17 i) 0 nx nb (by rw [← hT]; exact hS) (by rw [← hT]; exact hnb) h8)) rfl rfl (Nat.le_of_ble_eq_true rfl) ?_
                rintro _ _ _ ⟨rfl, rfl, m, ndf, rfl⟩ _
                refine rx_last rfl rfl hnd (by omega) ?_
                change mj_W _ _ _ _ (rf_h (sL (sX T m ndf) 27 nd (sp_truth T (T.1 17 i) 0))) _ _ _ _ _
                rw [sL_X _ _ _ _ _ rfl]
                refine mj_r_pure rfl rfl ?_
                refine rr_get rfl rfl rfl ?_
                iterate 2 (refine mj_r_pure rfl rfl ?_)
                refine rr_get rfl rfl rfl ?_
                refine mj_r_pure rfl rfl ?_
                refine rx_lald rfl rfl (by first | rfl | assumption) (by omega) ?_
                refine rx_last rfl rfl hnd (by omega) ?_
                rw [sL_X _ _ _ _ _ rfl]
                refine mj_r_pure rfl rfl ?_
                refine rr_get rfl rfl rfl ?_
                iterate 2 (refine mj_r_pure rfl rfl ?_)
                refine rx_last rfl rfl hnd (by omega) ?_
                rw [sL_X _ _ _ _ _ rfl]
                refine mj_r_pure rfl rfl ?_
                refine rr_get rfl rfl rfl ?_
                iterate 2 (refine mj_r_pure rfl rfl ?_)
                refine rr_get rfl rfl rfl ?_
                refine mj_r_pure rfl rfl ?_
                refine rx_iald rfl rfl hnd (by omega) ?_
                refine mj_r_pure rfl rfl ?_
                refine mj_r_icmp_ne rfl (fun c8 => ?_) (fun c8 => ?_)
                · refine mj_r_pure rfl rfl ?_
                  refine rx_iast rfl rfl hnd (by omega) ?_
                  rw [sA_X _ _ _ _ _ rfl rfl rfl]
                  refine mj_r_pure rfl rfl ?_
                  refine rr_get rfl rfl rfl ?_
                  iterate 2 (refine mj_r_pure rfl rfl ?_)
                  refine rx_iast rfl rfl hnd (by omega) ?_
                  rw [sA_X _ _ _ _ _ rfl rfl rfl]
                  refine mj_r_pure rfl rfl ?_
                  refine rr_get rfl rfl rfl ?_
                  iterate 2 (refine mj_r_pure rfl rfl ?_)
                  refine rx_iast rfl rfl hnd (by omega) ?_
                  rw [sA_X _ _ _ _ _ rfl rfl rfl]
                  refine mj_r_pure rfl rfl ?_
                  refine rr_get rfl rfl rfl ?_
                  iterate 2 (refine mj_r_pure rfl rfl ?_)
                  refine rx_iast rfl rfl hnd (by omega) ?_
                  rw [sA_X _ _ _ _ _ rfl rfl rfl]
                  refine mj_r_pure rfl rfl ?_
                  exact mj_r_iret rfl rfl rfl (rx1 (by rw [sp_dispute, if_pos ⟨a1, a2, by rw [ei]; exact c3, by rw [ei]; exact c4, c5, by rw [ej]; exact c6, c7⟩, ei, hb2, eb]) (by exact hdis (if_neg (fun z => c8 (h26.trans z)))))
                · iterate 2 (refine mj_r_pure rfl rfl ?_)
                  refine rx_iast rfl rfl hnd (by omega) ?_
                  rw [sA_X _ _ _ _ _ rfl rfl rfl]
                  refine mj_r_pure rfl rfl ?_
                  refine rr_get rfl rfl rfl ?_
                  iterate 2 (refine mj_r_pure rfl rfl ?_)
                  refine rx_iast rfl rfl hnd (by omega) ?_
                  rw [sA_X _ _ _ _ _ rfl rfl rfl]
                  refine mj_r_pure rfl rfl ?_
                  refine rr_get rfl rfl rfl ?_
                  iterate 2 (refine mj_r_pure rfl rfl ?_)
                  refine rx_iast rfl rfl hnd (by omega) ?_
                  rw [sA_X _ _ _ _ _ rfl rfl rfl]
                  refine mj_r_pure rfl rfl ?_
                  refine rr_get rfl rfl rfl ?_
                  iterate 2 (refine mj_r_pure rfl rfl ?_)
                  refine rx_iast rfl rfl hnd (by omega) ?_
                  rw [sA_X _ _ _ _ _ rfl rfl rfl]
                  refine mj_r_pure rfl rfl ?_
                  exact mj_r_iret rfl rfl rfl (rx1 (by rw [sp_dispute, if_pos ⟨a1, a2, by rw [ei]; exact c3, by rw [ei]; exact c4, c5, by rw [ej]; exact c6, c7⟩, ei, hb2, eb]) (by exact hdis (if_pos (h26.symm.trans c8))))
              · refine mj_r_pure rfl rfl ?_
                exact mj_r_iret rfl rfl rfl (rx0 (by refine if_neg (fun q => ?_); exact q.2.2.2.2.2.2 c7))
    · refine mj_r_pure rfl rfl ?_
      refine mj_r_callS (kc := 0) (ks := 0) rfl li_Ref_165 ck_Ref_isPlayer iv_Ref_isPlayer (by decide) rfl (K_Ref_isPlayer _ _ nx) rfl rfl (Nat.le_of_ble_eq_true rfl) ?_
      rintro _ _ _ ⟨rfl, rfl, rfl⟩ _
      rw [bI_t a1]
      refine mj_r_if_eq rfl (fun c1 => absurd c1 (by decide)) (fun c1 => ?_)
      iterate 2 (refine mj_r_pure rfl rfl ?_)
      refine mj_r_callV (ci := 10) (kc := 0) (ks := 0) rfl li_Ref_171 ck_Ref_isClaim iv_Ref_isClaim (by decide) rfl rfl (K_Ref_isClaim S _ nx) rfl rfl (Nat.le_of_ble_eq_true rfl) ?_
      rintro _ _ _ ⟨rfl, rfl, rfl⟩ _
      rw [bI_f a2]
      refine mj_r_if_eq rfl (fun c2 => ?_) (fun c2 => absurd c2 (fun q => q rfl))
      refine mj_r_pure rfl rfl ?_
      exact mj_r_iret rfl rfl rfl (rx0 (by refine if_neg (fun q => ?_); exact a2 q.2.1))
  · refine mj_r_pure rfl rfl ?_
    refine mj_r_callS (kc := 0) (ks := 0) rfl li_Ref_165 ck_Ref_isPlayer iv_Ref_isPlayer (by decide) rfl (K_Ref_isPlayer _ _ nx) rfl rfl (Nat.le_of_ble_eq_true rfl) ?_
    rintro _ _ _ ⟨rfl, rfl, rfl⟩ _
    rw [bI_f a1]
    refine mj_r_if_eq rfl (fun c1 => ?_) (fun c1 => absurd c1 (fun q => q rfl))
    refine mj_r_pure rfl rfl ?_
    exact mj_r_iret rfl rfl rfl (rx0 (by refine if_neg (fun q => ?_); exact a1 q.1))
