/-! the class: the court, its small methods -/
abbrev oCrt (nc oc nd t : Int32) : List Value := [.ref 18, .ref 19, .int nc, .int oc, .ref 20, .int nd, .int t]
theorem pl8 {p : Nat} (hp : p < 8) : isN (nI p) 8 := nat_isN (n := 8) hp (by omega)
set_option maxRecDepth 20000 in
set_option maxHeartbeats 4000000 in
theorem K_Court_pay (h : mj_H) (nx p : Nat) (nc oc nd t v : Int32) (Pu : Nat → Int32) (h2 : h.1 2 17 = some (oCrt nc oc nd t)) (h18 : h.2.1 18 = some (8, Pu)) (hp : p < 8) : cK me_Court_pay [.ref 17, .int (nI p), .int v] h nx none (mj_si h 18 8 (upd Pu p (Pu p + v))) := by
  refine mj_K.of ok_Court_pay ck_Court_pay (Nat.le_of_ble_eq_true rfl) ?_
  refine mj_r_pure rfl rfl ?_
  refine mj_r_callSN (kc := 0) (ks := 0) rfl li_Court_50 ck_Top_isPlayer iv_Top_isPlayer (by decide) (K_Top_isPlayer _ _ nx) rfl rfl (Nat.le_of_ble_eq_true rfl) ?_
  rintro _ _ _ ⟨rfl, rfl, rfl⟩ _
  rw [bI_t (pl8 hp)]
  refine mj_r_if_eq rfl (fun c1 => absurd c1 (by decide)) (fun c1 => ?_)
  refine mj_r_pure rfl rfl ?_
  refine mj_r_getf rfl rfl h2 rfl ?_
  iterate 2 (refine mj_r_pure rfl rfl ?_)
  refine cx_iald rfl h18 (by first | rfl | assumption) (by omega) ?_
  iterate 2 (refine mj_r_pure rfl rfl ?_)
  refine cx_iast rfl h18 (by first | rfl | assumption) (by omega) ?_
  exact mj_r_ret rfl rfl ⟨rfl, rfl, rfl⟩
set_option maxRecDepth 20000 in
set_option maxHeartbeats 4000000 in
theorem K_Court_claimAt_t (h : mj_H) (nx c nc a : Nat) (oc nd t : Int32) (fc : Nat → Option Nat) (h2 : h.1 2 17 = some (oCrt (nI nc) oc nd t)) (h19 : h.2.2.2 1 19 = some (40, fc)) (h40 : nc ≤ 40) (hc : c < nc) (hf : fc c = some a) : cK me_Court_claimAt [.ref 17, .int (nI c)] h nx (some (.ref a)) h := by
  refine mj_K.of ok_Court_claimAt ck_Court_claimAt (Nat.le_of_ble_eq_true rfl) ?_
  refine mj_r_pure rfl rfl ?_
  refine mj_r_if_lt rfl (fun c1 => absurd c1 (nI_pos (by omega))) (fun c1 => ?_)
  iterate 2 (refine mj_r_pure rfl rfl ?_)
  refine mj_r_getf rfl rfl h2 rfl ?_
  refine mj_r_icmp_ge rfl (fun c2 => absurd c2 (nI_ge (by omega) (by omega))) (fun c2 => ?_)
  refine mj_r_pure rfl rfl ?_
  refine mj_r_getf rfl rfl h2 rfl ?_
  refine mj_r_pure rfl rfl ?_
  refine cx_aald (ci := _) rfl h19 (by first | rfl | assumption) (by omega) (rfv hf) ?_
  refine mj_r_pure rfl rfl ?_
  exact mj_r_aret rfl rfl ⟨rfl, rfl, rfl⟩
set_option maxRecDepth 20000 in
set_option maxHeartbeats 4000000 in
theorem K_Court_claimAt_f (h : mj_H) (nx : Nat) (nc oc nd t x : Int32) (h2 : h.1 2 17 = some (oCrt nc oc nd t)) (hx : ¬ isN x nc) : cK me_Court_claimAt [.ref 17, .int x] h nx (some .null) h := by
  refine mj_K.of ok_Court_claimAt ck_Court_claimAt (Nat.le_of_ble_eq_true rfl) ?_
  refine mj_r_pure rfl rfl ?_
  refine mj_r_if_lt rfl (fun c1 => ?_) (fun c1 => ?_)
  · refine mj_r_pure rfl rfl ?_
    exact mj_r_aretN rfl rfl ⟨rfl, rfl, rfl⟩
  · iterate 2 (refine mj_r_pure rfl rfl ?_)
    refine mj_r_getf rfl rfl h2 rfl ?_
    refine mj_r_icmp_ge rfl (fun c2 => ?_) (fun c2 => ?_)
    · refine mj_r_pure rfl rfl ?_
      exact mj_r_aretN rfl rfl ⟨rfl, rfl, rfl⟩
    · exact absurd ⟨nlt0_le c1, nge_lt c2⟩ hx
set_option maxRecDepth 20000 in
set_option maxHeartbeats 4000000 in
theorem K_Court_disputeAt_t (h : mj_H) (nx d nd a : Nat) (oc nc t : Int32) (fd : Nat → Option Nat) (h2 : h.1 2 17 = some (oCrt nc oc (nI nd) t)) (h20 : h.2.2.2 3 20 = some (80, fd)) (h80 : nd ≤ 80) (hd : d < nd) (hf : fd d = some a) : cK me_Court_disputeAt [.ref 17, .int (nI d)] h nx (some (.ref a)) h := by
  refine mj_K.of ok_Court_disputeAt ck_Court_disputeAt (Nat.le_of_ble_eq_true rfl) ?_
  refine mj_r_pure rfl rfl ?_
  refine mj_r_if_lt rfl (fun c1 => absurd c1 (nI_pos (by omega))) (fun c1 => ?_)
  iterate 2 (refine mj_r_pure rfl rfl ?_)
  refine mj_r_getf rfl rfl h2 rfl ?_
  refine mj_r_icmp_ge rfl (fun c2 => absurd c2 (nI_ge (by omega) (by omega))) (fun c2 => ?_)
  refine mj_r_pure rfl rfl ?_
  refine mj_r_getf rfl rfl h2 rfl ?_
  refine mj_r_pure rfl rfl ?_
  refine cx_aald (ci := _) rfl h20 (by first | rfl | assumption) (by omega) (rfv hf) ?_
  refine mj_r_pure rfl rfl ?_
  exact mj_r_aret rfl rfl ⟨rfl, rfl, rfl⟩
set_option maxRecDepth 20000 in
set_option maxHeartbeats 4000000 in
theorem K_Court_disputeAt_f (h : mj_H) (nx : Nat) (nc oc nd t x : Int32) (h2 : h.1 2 17 = some (oCrt nc oc nd t)) (hx : ¬ isN x nd) : cK me_Court_disputeAt [.ref 17, .int x] h nx (some .null) h := by
  refine mj_K.of ok_Court_disputeAt ck_Court_disputeAt (Nat.le_of_ble_eq_true rfl) ?_
  refine mj_r_pure rfl rfl ?_
  refine mj_r_if_lt rfl (fun c1 => ?_) (fun c1 => ?_)
  · refine mj_r_pure rfl rfl ?_
    exact mj_r_aretN rfl rfl ⟨rfl, rfl, rfl⟩
  · iterate 2 (refine mj_r_pure rfl rfl ?_)
    refine mj_r_getf rfl rfl h2 rfl ?_
    refine mj_r_icmp_ge rfl (fun c2 => ?_) (fun c2 => ?_)
    · refine mj_r_pure rfl rfl ?_
      exact mj_r_aretN rfl rfl ⟨rfl, rfl, rfl⟩
    · exact absurd ⟨nlt0_le c1, nge_lt c2⟩ hx
set_option maxRecDepth 20000 in
set_option maxHeartbeats 4000000 in
theorem K_Court_openAt_t (h : mj_H) (nx d nd a ca : Nat) (oc nc t pl co lo hi to ct dt an : Int32) (ld hd' md : Int64) (fd : Nat → Option Nat) (h2 : h.1 2 17 = some (oCrt nc oc (nI nd) t)) (h20 : h.2.2.2 3 20 = some (80, fd)) (h80 : nd ≤ 80) (hd : d < nd) (hf : fd d = some a) (h3 : h.1 3 a = some (oDis pl ca co lo hi ld hd' to md ct dt an)) (h0 : co = 0) : cK me_Court_openDisputeAt [.ref 17, .int (nI d)] h nx (some (.ref a)) h := by
  refine mj_K.of ok_Court_openDisputeAt ck_Court_openDisputeAt (Nat.le_of_ble_eq_true rfl) ?_
  iterate 2 (refine mj_r_pure rfl rfl ?_)
  refine mj_r_cV0 (ci := 2)  rfl li_Court_43 ck_Court_disputeAt iv_Court_disputeAt (by decide) ((K_Court_disputeAt_t _ nx d nd a _ _ _ fd h2 h20 h80 hd hf)) rfl rfl (Nat.le_of_ble_eq_true rfl) rfl h2 ?_
  rintro _ _ _ ⟨rfl, rfl, rfl⟩ _
  iterate 2 (refine mj_r_pure rfl rfl ?_)
  refine mj_r_pure rfl rfl ?_
  refine mj_r_pure rfl rfl ?_
  refine mj_r_getf rfl rfl h3 rfl ?_
  refine mj_r_if_ne rfl (fun c1 => absurd c1 (fun q => q h0)) (fun c1 => ?_)
  iterate 2 (refine mj_r_pure rfl rfl ?_)
  exact mj_r_aret rfl rfl ⟨rfl, rfl, rfl⟩
set_option maxRecDepth 20000 in
set_option maxHeartbeats 4000000 in
theorem K_Court_openAt_f (h : mj_H) (nx d nd a ca : Nat) (oc nc t pl co lo hi to ct dt an : Int32) (ld hd' md : Int64) (fd : Nat → Option Nat) (h2 : h.1 2 17 = some (oCrt nc oc (nI nd) t)) (h20 : h.2.2.2 3 20 = some (80, fd)) (h80 : nd ≤ 80) (hd : d < nd) (hf : fd d = some a) (h3 : h.1 3 a = some (oDis pl ca co lo hi ld hd' to md ct dt an)) (h0 : ¬ co = 0) : cK me_Court_openDisputeAt [.ref 17, .int (nI d)] h nx (some .null) h := by
  refine mj_K.of ok_Court_openDisputeAt ck_Court_openDisputeAt (Nat.le_of_ble_eq_true rfl) ?_
  iterate 2 (refine mj_r_pure rfl rfl ?_)
  refine mj_r_cV0 (ci := 2)  rfl li_Court_43 ck_Court_disputeAt iv_Court_disputeAt (by decide) ((K_Court_disputeAt_t _ nx d nd a _ _ _ fd h2 h20 h80 hd hf)) rfl rfl (Nat.le_of_ble_eq_true rfl) rfl h2 ?_
  rintro _ _ _ ⟨rfl, rfl, rfl⟩ _
  iterate 2 (refine mj_r_pure rfl rfl ?_)
  refine mj_r_pure rfl rfl ?_
  refine mj_r_pure rfl rfl ?_
  refine mj_r_getf rfl rfl h3 rfl ?_
  refine mj_r_if_ne rfl (fun c1 => ?_) (fun c1 => absurd c1 (h0))
  refine mj_r_pure rfl rfl ?_
  exact mj_r_aretN rfl rfl ⟨rfl, rfl, rfl⟩
set_option maxRecDepth 20000 in
set_option maxHeartbeats 4000000 in
theorem K_Court_claimantWins (h : mj_H) (nx a ca p : Nat) (nc oc nd t pl co lo hi to ct dt an nu ba cc od qs : Int32) (ld hd md dg : Int64) (Pu : Nat → Int32) (h2 : h.1 2 17 = some (oCrt nc oc nd t)) (h18 : h.2.1 18 = some (8, Pu)) (hp : p < 8) (h3 : h.1 3 a = some (oDis pl ca co lo hi ld hd to md ct dt an)) (h1 : h.1 1 ca = some (oClm nu (nI p) ba dg cc od qs)) : cK me_Court_claimantWins [.ref 17, .ref a] h nx none (mj_si (mj_so (mj_so h 3 a (oDis pl ca 1 lo hi ld hd to md ct dt an)) 1 ca (oClm nu (nI p) ba dg cc (od - 1) t)) 18 8 (upd Pu p (Pu p + 50))) := by
  refine mj_K.of ok_Court_claimantWins ck_Court_claimantWins (Nat.le_of_ble_eq_true rfl) ?_
  iterate 2 (refine mj_r_pure rfl rfl ?_)
  refine mj_r_putf rfl rfl h3 rfl (Or.inl rfl) rfl rfl ?_
  refine mj_r_pure rfl rfl ?_
  refine mj_r_getf rfl rfl so_self rfl ?_
  refine mj_r_pure rfl rfl ?_
  refine mj_r_getf rfl rfl h1 rfl ?_
  iterate 2 (refine mj_r_pure rfl rfl ?_)
  refine mj_r_putf rfl rfl h1 rfl (Or.inl rfl) rfl rfl ?_
  refine mj_r_pure rfl rfl ?_
  refine mj_r_getf rfl rfl (so_self (h := h) (ci := 3) (a := a)) rfl ?_
  refine mj_r_pure rfl rfl ?_
  refine mj_r_getf rfl rfl h2 rfl ?_
  refine mj_r_putf rfl rfl so_self rfl (Or.inl rfl) rfl rfl ?_
  iterate 2 (refine mj_r_pure rfl rfl ?_)
  refine mj_r_getf rfl rfl (so_self (h := h) (ci := 3) (a := a)) rfl ?_
  refine mj_r_getf rfl rfl so_self rfl ?_
  refine mj_r_pure rfl rfl ?_
  refine mj_r_cV0 (ci := 2)  rfl li_Court_54 ck_Court_pay iv_Court_pay (by decide) ((K_Court_pay _ nx p nc oc nd t 50 Pu h2 h18 hp)) rfl rfl (Nat.le_of_ble_eq_true rfl) rfl h2 ?_
  rintro _ _ _ ⟨rfl, rfl, rfl⟩ _
  exact mj_r_ret rfl rfl ⟨rfl, by rw [so_so], rfl⟩
set_option maxRecDepth 20000 in
set_option maxHeartbeats 4000000 in
theorem K_Court_mayDispute (h : mj_H) (nx ca : Nat) (nc oc nd t pl nu cp ba cc od qs : Int32) (dg : Int64) (Pu : Nat → Int32) (h2 : h.1 2 17 = some (oCrt nc oc nd t)) (h18 : h.2.1 18 = some (8, Pu)) (h1 : h.1 1 ca = some (oClm nu cp ba dg cc od qs)) : cK me_Court_mayDispute [.ref 17, .int pl, .ref ca] h nx (some (.int (bI (isN pl 8 ∧ ¬ Pu pl.toNatClampNeg < 50 ∧ ¬ 80 ≤ nd ∧ cc = 0 ∧ ¬ cp = pl ∧ ¬ 4 ≤ od)))) h := by
  refine mj_K.of ok_Court_mayDispute ck_Court_mayDispute (Nat.le_of_ble_eq_true rfl) ?_
  by_cases a1 : isN pl 8
  · obtain ⟨p, hp, rfl⟩ := isN_nat (n := 8) (by omega) a1
    rw [nI_clamp (by omega)]
    refine mj_r_pure rfl rfl ?_
    refine mj_r_callSN (kc := 0) (ks := 0) rfl li_Court_50 ck_Top_isPlayer iv_Top_isPlayer (by decide) (K_Top_isPlayer _ _ nx) rfl rfl (Nat.le_of_ble_eq_true rfl) ?_
    rintro _ _ _ ⟨rfl, rfl, rfl⟩ _
    rw [bI_t a1]
    refine mj_r_if_eq rfl (fun c1 => absurd c1 (by decide)) (fun c1 => ?_)
    refine mj_r_pure rfl rfl ?_
    refine mj_r_getf rfl rfl h2 rfl ?_
    refine mj_r_pure rfl rfl ?_
    refine cx_iald rfl h18 (by first | rfl | assumption) (by omega) ?_
    refine mj_r_pure rfl rfl ?_
    refine mj_r_icmp_lt rfl (fun c2 => ?_) (fun c2 => ?_)
    · refine mj_r_pure rfl rfl ?_
      exact mj_r_iret rfl rfl rfl ⟨by rw [bI_f (fun q => q.2.1 c2)], rfl, rfl⟩
    · refine mj_r_pure rfl rfl ?_
      refine mj_r_getf rfl rfl h2 rfl ?_
      refine mj_r_pure rfl rfl ?_
      refine mj_r_icmp_ge rfl (fun c3 => ?_) (fun c3 => ?_)
      · refine mj_r_pure rfl rfl ?_
        exact mj_r_iret rfl rfl rfl ⟨by rw [bI_f (fun q => q.2.2.1 c3)], rfl, rfl⟩
      · refine mj_r_pure rfl rfl ?_
        refine mj_r_getf rfl rfl h1 rfl ?_
        refine mj_r_if_ne rfl (fun c4 => ?_) (fun c4 => ?_)
        · refine mj_r_pure rfl rfl ?_
          exact mj_r_iret rfl rfl rfl ⟨by rw [bI_f (fun q => c4 q.2.2.2.1)], rfl, rfl⟩
        · refine mj_r_pure rfl rfl ?_
          refine mj_r_getf rfl rfl h1 rfl ?_
          refine mj_r_pure rfl rfl ?_
          refine mj_r_icmp_eq rfl (fun c5 => ?_) (fun c5 => ?_)
          · refine mj_r_pure rfl rfl ?_
            exact mj_r_iret rfl rfl rfl ⟨by rw [bI_f (fun q => q.2.2.2.2.1 c5)], rfl, rfl⟩
          · refine mj_r_pure rfl rfl ?_
            refine mj_r_getf rfl rfl h1 rfl ?_
            refine mj_r_pure rfl rfl ?_
            refine mj_r_icmp_ge rfl (fun c6 => ?_) (fun c6 => ?_)
            · refine mj_r_pure rfl rfl ?_
              exact mj_r_iret rfl rfl rfl ⟨by rw [bI_f (fun q => q.2.2.2.2.2 c6)], rfl, rfl⟩
            · iterate 2 (refine mj_r_pure rfl rfl ?_)
              exact mj_r_iret rfl rfl rfl ⟨by rw [bI_t ⟨a1, c2, c3, c4, c5, c6⟩], rfl, rfl⟩
  · refine mj_r_pure rfl rfl ?_
    refine mj_r_callSN (kc := 0) (ks := 0) rfl li_Court_50 ck_Top_isPlayer iv_Top_isPlayer (by decide) (K_Top_isPlayer _ _ nx) rfl rfl (Nat.le_of_ble_eq_true rfl) ?_
    rintro _ _ _ ⟨rfl, rfl, rfl⟩ _
    rw [bI_f a1]
    refine mj_r_if_eq rfl (fun c1 => ?_) (fun c1 => absurd c1 (fun q => q rfl))
    refine mj_r_pure rfl rfl ?_
    exact mj_r_iret rfl rfl rfl ⟨by rw [bI_f (fun q => a1 q.1)], rfl, rfl⟩
set_option maxRecDepth 20000 in
set_option maxHeartbeats 4000000 in
theorem K_Court_openClaim_f (h : mj_H) (nx : Nat) (nc oc nd t pl ba : Int32) (dg : Int64) (Pu : Nat → Int32) (h2 : h.1 2 17 = some (oCrt nc oc nd t)) (h18 : h.2.1 18 = some (8, Pu)) (hn : ¬ (isN pl 8 ∧ ¬ Pu pl.toNatClampNeg < 100 ∧ nc < 40)) : mj_K me_Court_openClaim [.ref 17, .int pl, .int ba, .long dg] h nx 1 7 (fun r h' nx' => r = some (.int (-1)) ∧ h' = h ∧ nx = nx') := by
  refine mj_K.of ok_Court_openClaim ck_Court_openClaim (Nat.le_of_ble_eq_true rfl) ?_
  by_cases a1 : isN pl 8
  · obtain ⟨p, hp, rfl⟩ := isN_nat (n := 8) (by omega) a1
    rw [nI_clamp (by omega)] at hn
    refine mj_r_pure rfl rfl ?_
    refine mj_r_callSN (kc := 1) (ks := 7) rfl li_Court_50 ck_Top_isPlayer iv_Top_isPlayer (by decide) (K_Top_isPlayer _ _ nx) rfl rfl (Nat.le_of_ble_eq_true rfl) ?_
    rintro _ _ _ ⟨rfl, rfl, rfl⟩ _
    rw [bI_t a1]
    refine mj_r_if_eq rfl (fun c1 => absurd c1 (by decide)) (fun c1 => ?_)
    refine mj_r_pure rfl rfl ?_
    refine mj_r_getf rfl rfl h2 rfl ?_
    refine mj_r_pure rfl rfl ?_
    refine cx_iald rfl h18 (by first | rfl | assumption) (by omega) ?_
    refine mj_r_pure rfl rfl ?_
    refine mj_r_icmp_lt rfl (fun c2 => ?_) (fun c2 => ?_)
    · refine mj_r_pure rfl rfl ?_
      exact mj_r_iret rfl rfl rfl ⟨rfl, rfl, rfl⟩
    · refine mj_r_pure rfl rfl ?_
      refine mj_r_getf rfl rfl h2 rfl ?_
      refine mj_r_pure rfl rfl ?_
      refine mj_r_icmp_lt rfl (fun c3 => ?_) (fun c3 => ?_)
      · exact absurd ⟨a1, c2, c3⟩ hn
      · refine mj_r_pure rfl rfl ?_
        exact mj_r_iret rfl rfl rfl ⟨rfl, rfl, rfl⟩
  · refine mj_r_pure rfl rfl ?_
    refine mj_r_callSN (kc := 1) (ks := 7) rfl li_Court_50 ck_Top_isPlayer iv_Top_isPlayer (by decide) (K_Top_isPlayer _ _ nx) rfl rfl (Nat.le_of_ble_eq_true rfl) ?_
    rintro _ _ _ ⟨rfl, rfl, rfl⟩ _
    rw [bI_f a1]
    refine mj_r_if_eq rfl (fun c1 => ?_) (fun c1 => absurd c1 (fun q => q rfl))
    refine mj_r_pure rfl rfl ?_
    exact mj_r_iret rfl rfl rfl ⟨rfl, rfl, rfl⟩
set_option maxRecDepth 20000 in
set_option maxHeartbeats 4000000 in
theorem K_Court_openClaim_t (h : mj_H) (nx p nc : Nat) (oc nd t ba : Int32) (dg : Int64) (Pu : Nat → Int32) (fc : Nat → Option Nat) (h2 : h.1 2 17 = some (oCrt (nI nc) oc nd t)) (h18 : h.2.1 18 = some (8, Pu)) (h19 : h.2.2.2 1 19 = some (40, fc)) (hp : p < 8) (hpu : ¬ Pu p < 100) (hnc : nc < 40) : mj_K me_Court_openClaim [.ref 17, .int (nI p), .int ba, .long dg] h nx 1 7 (fun r h' nx' => r = some (.int (nI nc + 1 - 1)) ∧ h' = mj_so (mj_sr (mj_so (mj_si h 18 8 (upd Pu p (Pu p + -100))) 1 nx (oClm (nI nc) (nI p) ba dg 0 0 t)) 1 19 40 (va_up fc nc (some nx))) 2 17 (oCrt (nI nc + 1) (oc + 1) nd t) ∧ nx' = nx + 1) := by
  refine mj_K.of ok_Court_openClaim ck_Court_openClaim (Nat.le_of_ble_eq_true rfl) ?_
  refine mj_r_pure rfl rfl ?_
  refine mj_r_callSN (kc := 1) (ks := 7) rfl li_Court_50 ck_Top_isPlayer iv_Top_isPlayer (by decide) (K_Top_isPlayer _ _ nx) rfl rfl (Nat.le_of_ble_eq_true rfl) ?_
  rintro _ _ _ ⟨rfl, rfl, rfl⟩ _
  rw [bI_t (pl8 hp)]
  refine mj_r_if_eq rfl (fun c1 => absurd c1 (by decide)) (fun c1 => ?_)
  refine mj_r_pure rfl rfl ?_
  refine mj_r_getf rfl rfl h2 rfl ?_
  refine mj_r_pure rfl rfl ?_
  refine cx_iald rfl h18 (by first | rfl | assumption) (by omega) ?_
  refine mj_r_pure rfl rfl ?_
  refine mj_r_icmp_lt rfl (fun c2 => absurd c2 (hpu)) (fun c2 => ?_)
  refine mj_r_pure rfl rfl ?_
  refine mj_r_getf rfl rfl h2 rfl ?_
  refine mj_r_pure rfl rfl ?_
  refine mj_r_icmp_lt rfl (fun c3 => ?_) (fun c3 => absurd c3 (fun q => q (nI_lt (a := nc) (b := 40) hnc (by omega))))
  iterate 3 (refine mj_r_pure rfl rfl ?_)
  refine mj_r_cV (ci := 2) (kc := 1) (ks := 7) rfl li_Court_54 ck_Court_pay iv_Court_pay (by decide) ((K_Court_pay _ nx p _ oc nd t (-100) Pu h2 h18 hp)) rfl rfl (Nat.le_of_ble_eq_true rfl) rfl h2 ?_
  rintro _ _ _ ⟨rfl, rfl, rfl⟩ _
  refine mj_r_pure rfl rfl ?_
  refine mj_r_getf rfl rfl h2 rfl ?_
  refine mj_r_pure rfl rfl ?_
  refine mj_r_getf rfl rfl h2 rfl ?_
  refine mj_r_new (N := 7) rfl rfl rfl rfl ?_
  iterate 2 (refine mj_r_pure rfl rfl ?_)
  refine mj_r_getf rfl rfl h2 rfl ?_
  iterate 4 (refine mj_r_pure rfl rfl ?_)
  refine mj_r_getf rfl rfl h2 rfl ?_
  refine mj_r_cI0 rfl li_Court_58 ck_Claim_init iv_Claim_init rfl rfl (by decide) ((K_Claim_init _ nx (nx + 1) _ _ _ _ _ _ _ so_self (nI nc) (nI p) ba t dg)) rfl rfl (Nat.le_of_ble_eq_true rfl) ?_
  rintro _ _ _ ⟨rfl, rfl, rfl⟩ _
  rw [so_so]
  refine cx_aast (ci := _) rfl h19 so_self (by first | rfl | assumption) (by omega) ?_
  iterate 2 (refine mj_r_pure rfl rfl ?_)
  refine mj_r_getf rfl rfl h2 rfl ?_
  iterate 2 (refine mj_r_pure rfl rfl ?_)
  refine mj_r_putf rfl rfl h2 rfl (Or.inl rfl) rfl rfl ?_
  iterate 2 (refine mj_r_pure rfl rfl ?_)
  refine mj_r_getf rfl rfl so_self rfl ?_
  iterate 2 (refine mj_r_pure rfl rfl ?_)
  refine mj_r_putf rfl rfl so_self rfl (Or.inl rfl) rfl rfl ?_
  refine mj_r_pure rfl rfl ?_
  refine mj_r_getf rfl rfl so_self rfl ?_
  iterate 2 (refine mj_r_pure rfl rfl ?_)
  exact mj_r_iret rfl rfl rfl ⟨rfl, by rw [so_so], rfl⟩
