/-! the class: programs, batches, claims, disputes as objects -/
set_option maxRecDepth 20000 in
set_option maxHeartbeats 4000000 in
theorem K_Program_init (h : mj_H) (p nx : Nat) (x : Value) (y : Int32) (ho : h.1 8 p = some [x, .int y]) : mj_K me_Program_init [.ref p] h nx 1 24 (fun r h' nx' => r = none ∧ h' = mj_so (mj_sr h 4 nx 24 (fun _ => none)) 8 p (oPrg nx 0) ∧ nx' = nx + 1) := by
  refine mj_K.of ok_Program_init ck_Program_init (Nat.le_of_ble_eq_true rfl) ?_
  refine mj_r_pure rfl rfl ?_
  refine mj_r_oi rfl oi_Program (by decide) (by decide) ?_
  iterate 2 (refine mj_r_pure rfl rfl ?_)
  refine mj_r_newA (N := 24) rfl rfl (by decide) (by decide) (by decide) (by decide) ?_
  refine mj_r_putf rfl rfl ho rfl (Or.inr ⟨rfl, rfl, rfl⟩) rfl rfl ?_
  iterate 2 (refine mj_r_pure rfl rfl ?_)
  refine mj_r_putf rfl rfl so_self rfl (Or.inl rfl) rfl rfl ?_
  exact mj_r_ret rfl rfl ⟨rfl, by simp only [so_so], rfl⟩
abbrev oBat (p : Nat) (s : Int32) (f : Nat) : List Value := [.ref p, .int s, .ref f]
set_option maxRecDepth 20000 in
set_option maxHeartbeats 4000000 in
theorem K_Batch_init (h : mj_H) (b p nx : Nat) (s : Int32) (x y : Value) (z : Int32) (ho : h.1 0 b = some [x, .int z, y]) : mj_K me_Batch_init [.ref b, .ref p, .int s] h nx 1 4 (fun r h' nx' => r = none ∧ h' = mj_so (mj_si h nx 4 (fun _ => 0)) 0 b (oBat p s nx) ∧ nx' = nx + 1) := by
  refine mj_K.of ok_Batch_init ck_Batch_init (Nat.le_of_ble_eq_true rfl) ?_
  refine mj_r_pure rfl rfl ?_
  refine mj_r_oi rfl oi_Batch (by decide) (by decide) ?_
  iterate 2 (refine mj_r_pure rfl rfl ?_)
  refine mj_r_newI (N := 4) rfl (by decide) (by decide) (by decide) ?_
  refine mj_r_putf rfl rfl ho rfl (Or.inr ⟨rfl, rfl, rfl⟩) rfl rfl ?_
  iterate 2 (refine mj_r_pure rfl rfl ?_)
  refine mj_r_putf rfl rfl so_self rfl (Or.inr ⟨rfl, rfl, rfl⟩) rfl rfl ?_
  iterate 2 (refine mj_r_pure rfl rfl ?_)
  refine mj_r_putf rfl rfl so_self rfl (Or.inr ⟨rfl, rfl, rfl⟩) rfl rfl ?_
  exact mj_r_ret rfl rfl ⟨rfl, by simp only [so_so], rfl⟩
set_option maxRecDepth 20000 in
set_option maxHeartbeats 4000000 in
theorem K_Batch_setFirst (h : mj_H) (b p f nx : Nat) (s c0 c1 c2 c3 : Int32) (F : Nat → Int32) (ho : h.1 0 b = some (oBat p s f)) (hf : h.2.1 f = some (4, F)) : cK me_Batch_setFirst [.ref b, .int c0, .int c1, .int c2, .int c3] h nx none (mj_si h f 4 (upd (upd (upd (upd F 0 c0) 1 c1) 2 c2) 3 c3)) := by
  refine mj_K.of ok_Batch_setFirst ck_Batch_setFirst (Nat.le_of_ble_eq_true rfl) ?_
  refine mj_r_pure rfl rfl ?_
  refine mj_r_getf rfl rfl ho rfl ?_
  iterate 2 (refine mj_r_pure rfl rfl ?_)
  refine cx_iast rfl hf (show (0 : Int32) = nI 0 from rfl) (by omega) ?_
  refine mj_r_pure rfl rfl ?_
  refine mj_r_getf rfl rfl ho rfl ?_
  iterate 2 (refine mj_r_pure rfl rfl ?_)
  refine cx_iast rfl si_self (show (1 : Int32) = nI 1 from rfl) (by omega) ?_
  refine mj_r_pure rfl rfl ?_
  refine mj_r_getf rfl rfl ho rfl ?_
  iterate 2 (refine mj_r_pure rfl rfl ?_)
  refine cx_iast rfl si_self (show (2 : Int32) = nI 2 from rfl) (by omega) ?_
  refine mj_r_pure rfl rfl ?_
  refine mj_r_getf rfl rfl ho rfl ?_
  iterate 2 (refine mj_r_pure rfl rfl ?_)
  refine cx_iast rfl si_self (show (3 : Int32) = nI 3 from rfl) (by omega) ?_
  exact mj_r_ret rfl rfl ⟨rfl, by simp only [si_si], rfl⟩
abbrev oClm (nu pl ba : Int32) (dg : Int64) (co od qs : Int32) : List Value := [.int nu, .int pl, .int ba, .long dg, .int co, .int od, .int qs]
set_option maxRecDepth 20000 in
set_option maxHeartbeats 4000000 in
theorem K_Claim_init (h : mj_H) (a nx : Nat) (x0 x1 x2 x4 x5 x6 : Int32) (x3 : Int64) (ho : h.1 1 a = some (oClm x0 x1 x2 x3 x4 x5 x6)) (nu pl ba t : Int32) (dg : Int64) : cK me_Claim_init [.ref a, .int nu, .int pl, .int ba, .long dg, .int t] h nx none (mj_so h 1 a (oClm nu pl ba dg 0 0 t)) := by
  refine mj_K.of ok_Claim_init ck_Claim_init (Nat.le_of_ble_eq_true rfl) ?_
  refine mj_r_pure rfl rfl ?_
  refine mj_r_oi rfl oi_Claim (by decide) (by decide) ?_
  iterate 2 (refine mj_r_pure rfl rfl ?_)
  refine mj_r_putf rfl rfl ho rfl (Or.inl rfl) rfl rfl ?_
  iterate 2 (refine mj_r_pure rfl rfl ?_)
  refine mj_r_putf rfl rfl so_self rfl (Or.inl rfl) rfl rfl ?_
  iterate 2 (refine mj_r_pure rfl rfl ?_)
  refine mj_r_putf rfl rfl so_self rfl (Or.inr ⟨rfl, rfl, rfl⟩) rfl rfl ?_
  iterate 2 (refine mj_r_pure rfl rfl ?_)
  refine mj_r_putf rfl rfl so_self rfl (Or.inr ⟨rfl, rfl, rfl⟩) rfl rfl ?_
  iterate 2 (refine mj_r_pure rfl rfl ?_)
  refine mj_r_putf rfl rfl so_self rfl (Or.inr ⟨rfl, rfl, rfl⟩) rfl rfl ?_
  iterate 2 (refine mj_r_pure rfl rfl ?_)
  refine mj_r_putf rfl rfl so_self rfl (Or.inr ⟨rfl, rfl, rfl⟩) rfl rfl ?_
  iterate 2 (refine mj_r_pure rfl rfl ?_)
  refine mj_r_putf rfl rfl so_self rfl (Or.inl rfl) rfl rfl ?_
  exact mj_r_ret rfl rfl ⟨rfl, by simp only [so_so], rfl⟩
def sp_tl (co od qs t : Int32) : Int32 := if co = 0 then (if od ≤ 0 then qs + 40 - t else 40) else 0
set_option maxRecDepth 20000 in
set_option maxHeartbeats 4000000 in
theorem K_Claim_ticksLeft (h : mj_H) (a nx : Nat) (nu pl ba co od qs t : Int32) (dg : Int64) (ho : h.1 1 a = some (oClm nu pl ba dg co od qs)) : cK me_Claim_ticksLeft [.ref a, .int t] h nx (some (.int (sp_tl co od qs t))) h := by
  refine mj_K.of ok_Claim_ticksLeft ck_Claim_ticksLeft (Nat.le_of_ble_eq_true rfl) ?_
  refine mj_r_pure rfl rfl ?_
  refine mj_r_getf rfl rfl ho rfl ?_
  refine mj_r_if_eq rfl (fun c1 => ?_) (fun c1 => ?_)
  · refine mj_r_pure rfl rfl ?_
    refine mj_r_getf rfl rfl ho rfl ?_
    refine mj_r_if_le rfl (fun c2 => ?_) (fun c2 => ?_)
    · refine mj_r_pure rfl rfl ?_
      refine mj_r_getf rfl rfl ho rfl ?_
      iterate 4 (refine mj_r_pure rfl rfl ?_)
      exact mj_r_iret rfl rfl rfl ⟨by rw [sp_tl, if_pos c1, if_pos c2], rfl, rfl⟩
    · iterate 2 (refine mj_r_pure rfl rfl ?_)
      exact mj_r_iret rfl rfl rfl ⟨by rw [sp_tl, if_pos c1, if_neg c2], rfl, rfl⟩
  · refine mj_r_pure rfl rfl ?_
    exact mj_r_iret rfl rfl rfl ⟨by rw [sp_tl, if_neg c1], rfl, rfl⟩
abbrev oDis (pl : Int32) (cl : Nat) (co lo hi : Int32) (ld hd : Int64) (to : Int32) (md : Int64) (ct dt an : Int32) : List Value := [.int pl, .ref cl, .int co, .int lo, .int hi, .long ld, .long hd, .int to, .long md, .int ct, .int dt, .int an]
set_option maxRecDepth 20000 in
set_option maxHeartbeats 4000000 in
theorem K_Dispute_init (h : mj_H) (d c nx : Nat) (x0 x2 x3 x4 x7 x9 x10 x11 : Int32) (x1 : Value) (x5 x6 x8 : Int64) (ho : h.1 3 d = some [.int x0, x1, .int x2, .int x3, .int x4, .long x5, .long x6, .int x7, .long x8, .int x9, .int x10, .int x11]) (nu pp ba co od qs : Int32) (dg : Int64) (hc : h.1 1 c = some (oClm nu pp ba dg co od qs)) (pl st : Int32) (fd : Int64) : cK me_Dispute_init [.ref d, .int pl, .ref c, .long fd, .int st] h nx none (mj_so h 3 d (oDis pl c 0 0 st fd dg 0 0 0 0 0)) := by
  refine mj_K.of ok_Dispute_init ck_Dispute_init (Nat.le_of_ble_eq_true rfl) ?_
  refine mj_r_pure rfl rfl ?_
  refine mj_r_oi rfl oi_Dispute (by decide) (by decide) ?_
  iterate 2 (refine mj_r_pure rfl rfl ?_)
  refine mj_r_putf rfl rfl ho rfl (Or.inl rfl) rfl rfl ?_
  iterate 2 (refine mj_r_pure rfl rfl ?_)
  refine mj_r_putf rfl rfl so_self rfl (Or.inl rfl) rfl rfl ?_
  iterate 2 (refine mj_r_pure rfl rfl ?_)
  refine mj_r_putf rfl rfl so_self rfl (Or.inl rfl) rfl rfl ?_
  iterate 2 (refine mj_r_pure rfl rfl ?_)
  refine mj_r_putf rfl rfl so_self rfl (Or.inl rfl) rfl rfl ?_
  iterate 2 (refine mj_r_pure rfl rfl ?_)
  refine mj_r_putf rfl rfl so_self rfl (Or.inl rfl) rfl rfl ?_
  iterate 2 (refine mj_r_pure rfl rfl ?_)
  refine mj_r_putf rfl rfl so_self rfl (Or.inl rfl) rfl rfl ?_
  iterate 2 (refine mj_r_pure rfl rfl ?_)
  refine mj_r_putf rfl rfl so_self rfl (Or.inl rfl) rfl rfl ?_
  iterate 2 (refine mj_r_pure rfl rfl ?_)
  refine mj_r_putf rfl rfl so_self rfl (Or.inr ⟨rfl, rfl, rfl⟩) rfl rfl ?_
  iterate 2 (refine mj_r_pure rfl rfl ?_)
  refine mj_r_putf rfl rfl so_self rfl (Or.inr ⟨rfl, rfl, rfl⟩) rfl rfl ?_
  iterate 2 (refine mj_r_pure rfl rfl ?_)
  refine mj_r_putf rfl rfl so_self rfl (Or.inl rfl) rfl rfl ?_
  iterate 2 (refine mj_r_pure rfl rfl ?_)
  refine mj_r_putf rfl rfl so_self rfl (Or.inl rfl) rfl rfl ?_
  iterate 2 (refine mj_r_pure rfl rfl ?_)
  refine mj_r_getf rfl rfl hc rfl ?_
  refine mj_r_putf rfl rfl so_self rfl (Or.inl rfl) rfl rfl ?_
  exact mj_r_ret rfl rfl ⟨rfl, by simp only [so_so], rfl⟩
def sp_turn (co lo hi to : Int32) : Int32 := if co = 0 then (if hi = lo + 1 then 2 else if to = 0 then 0 else 1) else -1
section CD
variable (h : mj_H) (d nx cl : Nat) (pl co lo hi to ct dt an : Int32) (ld hd md : Int64) (ho : h.1 3 d = some (oDis pl cl co lo hi ld hd to md ct dt an))
set_option maxRecDepth 20000 in
set_option maxHeartbeats 4000000 in
theorem K_Dispute_turn (h : mj_H) (d nx cl : Nat) (pl co lo hi to ct dt an : Int32) (ld hd md : Int64) (ho : h.1 3 d = some (oDis pl cl co lo hi ld hd to md ct dt an)) : cK me_Dispute_turn [.ref d] h nx (some (.int (sp_turn co lo hi to))) h := by
  refine mj_K.of ok_Dispute_turn ck_Dispute_turn (Nat.le_of_ble_eq_true rfl) ?_
  refine mj_r_pure rfl rfl ?_
  refine mj_r_getf rfl rfl ho rfl ?_
  refine mj_r_if_eq rfl (fun c1 => ?_) (fun c1 => ?_)
  · refine mj_r_pure rfl rfl ?_
    refine mj_r_getf rfl rfl ho rfl ?_
    refine mj_r_pure rfl rfl ?_
    refine mj_r_getf rfl rfl ho rfl ?_
    iterate 2 (refine mj_r_pure rfl rfl ?_)
    refine mj_r_icmp_ne rfl (fun c2 => ?_) (fun c2 => ?_)
    · refine mj_r_pure rfl rfl ?_
      refine mj_r_getf rfl rfl ho rfl ?_
      refine mj_r_if_eq rfl (fun c3 => ?_) (fun c3 => ?_)
      · refine mj_r_pure rfl rfl ?_
        exact mj_r_iret rfl rfl rfl ⟨by rw [sp_turn, if_pos c1, if_neg c2, if_pos c3], rfl, rfl⟩
      · iterate 2 (refine mj_r_pure rfl rfl ?_)
        exact mj_r_iret rfl rfl rfl ⟨by rw [sp_turn, if_pos c1, if_neg c2, if_neg c3], rfl, rfl⟩
    · refine mj_r_pure rfl rfl ?_
      exact mj_r_iret rfl rfl rfl ⟨by rw [sp_turn, if_pos c1, if_pos c2], rfl, rfl⟩
  · refine mj_r_pure rfl rfl ?_
    exact mj_r_iret rfl rfl rfl ⟨by rw [sp_turn, if_neg c1], rfl, rfl⟩
set_option maxRecDepth 20000 in
set_option maxHeartbeats 4000000 in
theorem K_Dispute_middle (h : mj_H) (d nx cl : Nat) (pl co lo hi to ct dt an : Int32) (ld hd md : Int64) (ho : h.1 3 d = some (oDis pl cl co lo hi ld hd to md ct dt an)) : cK me_Dispute_middle [.ref d] h nx (some (.int ((lo + hi) / 2))) h := by
  refine mj_K.of ok_Dispute_middle ck_Dispute_middle (Nat.le_of_ble_eq_true rfl) ?_
  refine mj_r_pure rfl rfl ?_
  refine mj_r_getf rfl rfl ho rfl ?_
  refine mj_r_pure rfl rfl ?_
  refine mj_r_getf rfl rfl ho rfl ?_
  iterate 3 (refine mj_r_pure rfl rfl ?_)
  exact mj_r_iret rfl rfl rfl ⟨rfl, rfl, rfl⟩
set_option maxRecDepth 20000 in
set_option maxHeartbeats 4000000 in
theorem K_Dispute_takeMiddle (h : mj_H) (d nx cl : Nat) (pl co lo hi to ct dt an : Int32) (ld hd md dg : Int64) (ho : h.1 3 d = some (oDis pl cl co lo hi ld hd to md ct dt an)) : cK me_Dispute_takeMiddle [.ref d, .long dg] h nx none (mj_so h 3 d (oDis pl cl co lo hi ld hd 1 dg ct dt (an + 1))) := by
  refine mj_K.of ok_Dispute_takeMiddle ck_Dispute_takeMiddle (Nat.le_of_ble_eq_true rfl) ?_
  iterate 2 (refine mj_r_pure rfl rfl ?_)
  refine mj_r_putf rfl rfl ho rfl (Or.inl rfl) rfl rfl ?_
  iterate 2 (refine mj_r_pure rfl rfl ?_)
  refine mj_r_putf rfl rfl so_self rfl (Or.inl rfl) rfl rfl ?_
  iterate 2 (refine mj_r_pure rfl rfl ?_)
  refine mj_r_getf rfl rfl so_self rfl ?_
  iterate 2 (refine mj_r_pure rfl rfl ?_)
  refine mj_r_putf rfl rfl so_self rfl (Or.inl rfl) rfl rfl ?_
  exact mj_r_ret rfl rfl ⟨rfl, by simp only [so_so], rfl⟩
set_option maxRecDepth 20000 in
set_option maxHeartbeats 4000000 in
theorem K_Dispute_halve_t (h : mj_H) (d nx cl : Nat) (pl co lo hi to ct dt an : Int32) (ld hd md : Int64) (ho : h.1 3 d = some (oDis pl cl co lo hi ld hd to md ct dt an)) : cK me_Dispute_halve [.ref d, .int 1] h nx none (mj_so h 3 d (oDis pl cl co lo ((lo + hi) / 2) ld md 0 md ct dt (an + 1))) := by
  refine mj_K.of ok_Dispute_halve ck_Dispute_halve (Nat.le_of_ble_eq_true rfl) ?_
  refine mj_r_pure rfl rfl ?_
  refine mj_r_if_eq rfl (fun c1 => absurd c1 (by decide)) (fun c1 => ?_)
  iterate 2 (refine mj_r_pure rfl rfl ?_)
  refine mj_r_cV0 (ci := 3)  rfl li_Dispute_56 ck_Dispute_middle iv_Dispute_middle (by decide) (K_Dispute_middle h d nx cl pl co lo hi to ct dt an ld hd md ho) rfl rfl (Nat.le_of_ble_eq_true rfl) rfl ho ?_
  rintro _ _ _ ⟨rfl, rfl, rfl⟩ _
  refine mj_r_putf rfl rfl ho rfl (Or.inl rfl) rfl rfl ?_
  iterate 2 (refine mj_r_pure rfl rfl ?_)
  refine mj_r_getf rfl rfl so_self rfl ?_
  refine mj_r_putf rfl rfl so_self rfl (Or.inl rfl) rfl rfl ?_
  iterate 3 (refine mj_r_pure rfl rfl ?_)
  refine mj_r_putf rfl rfl so_self rfl (Or.inl rfl) rfl rfl ?_
  iterate 2 (refine mj_r_pure rfl rfl ?_)
  refine mj_r_getf rfl rfl so_self rfl ?_
  iterate 2 (refine mj_r_pure rfl rfl ?_)
  refine mj_r_putf rfl rfl so_self rfl (Or.inl rfl) rfl rfl ?_
  exact mj_r_ret rfl rfl ⟨rfl, by simp only [so_so], rfl⟩
set_option maxRecDepth 20000 in
set_option maxHeartbeats 4000000 in
theorem K_Dispute_halve_f (h : mj_H) (d nx cl : Nat) (pl co lo hi to ct dt an : Int32) (ld hd md : Int64) (ho : h.1 3 d = some (oDis pl cl co lo hi ld hd to md ct dt an)) : cK me_Dispute_halve [.ref d, .int 0] h nx none (mj_so h 3 d (oDis pl cl co ((lo + hi) / 2) hi md hd 0 md ct dt (an + 1))) := by
  refine mj_K.of ok_Dispute_halve ck_Dispute_halve (Nat.le_of_ble_eq_true rfl) ?_
  refine mj_r_pure rfl rfl ?_
  refine mj_r_if_eq rfl (fun c1 => ?_) (fun c1 => absurd c1 (fun q => q rfl))
  iterate 2 (refine mj_r_pure rfl rfl ?_)
  refine mj_r_cV0 (ci := 3)  rfl li_Dispute_56 ck_Dispute_middle iv_Dispute_middle (by decide) (K_Dispute_middle h d nx cl pl co lo hi to ct dt an ld hd md ho) rfl rfl (Nat.le_of_ble_eq_true rfl) rfl ho ?_
  rintro _ _ _ ⟨rfl, rfl, rfl⟩ _
  refine mj_r_putf rfl rfl ho rfl (Or.inl rfl) rfl rfl ?_
  iterate 2 (refine mj_r_pure rfl rfl ?_)
  refine mj_r_getf rfl rfl so_self rfl ?_
  refine mj_r_putf rfl rfl so_self rfl (Or.inl rfl) rfl rfl ?_
  iterate 2 (refine mj_r_pure rfl rfl ?_)
  refine mj_r_putf rfl rfl so_self rfl (Or.inl rfl) rfl rfl ?_
  iterate 2 (refine mj_r_pure rfl rfl ?_)
  refine mj_r_getf rfl rfl so_self rfl ?_
  iterate 2 (refine mj_r_pure rfl rfl ?_)
  refine mj_r_putf rfl rfl so_self rfl (Or.inl rfl) rfl rfl ?_
  exact mj_r_ret rfl rfl ⟨rfl, by simp only [so_so], rfl⟩
set_option maxRecDepth 20000 in
set_option maxHeartbeats 4000000 in
theorem K_Dispute_countForTurn (h : mj_H) (d nx cl : Nat) (pl co lo hi to ct dt an : Int32) (ld hd md : Int64) (ho : h.1 3 d = some (oDis pl cl co lo hi ld hd to md ct dt an)) : cK me_Dispute_countForTurn [.ref d] h nx none (mj_so h 3 d (if sp_turn co lo hi to = 1 then oDis pl cl co lo hi ld hd to md ct (dt + 1) an else oDis pl cl co lo hi ld hd to md (ct + 1) dt an)) := by
  refine mj_K.of ok_Dispute_countForTurn ck_Dispute_countForTurn (Nat.le_of_ble_eq_true rfl) ?_
  refine mj_r_pure rfl rfl ?_
  refine mj_r_cV0 (ci := 3)  rfl li_Dispute_60 ck_Dispute_turn iv_Dispute_turn (by decide) (K_Dispute_turn h d nx cl pl co lo hi to ct dt an ld hd md ho) rfl rfl (Nat.le_of_ble_eq_true rfl) rfl ho ?_
  rintro _ _ _ ⟨rfl, rfl, rfl⟩ _
  refine mj_r_pure rfl rfl ?_
  refine mj_r_icmp_ne rfl (fun c1 => ?_) (fun c1 => ?_)
  · iterate 2 (refine mj_r_pure rfl rfl ?_)
    refine mj_r_getf rfl rfl ho rfl ?_
    iterate 2 (refine mj_r_pure rfl rfl ?_)
    refine mj_r_putf rfl rfl ho rfl (Or.inl rfl) rfl rfl ?_
    exact mj_r_ret rfl rfl ⟨rfl, by rw [if_neg c1], rfl⟩
  · iterate 2 (refine mj_r_pure rfl rfl ?_)
    refine mj_r_getf rfl rfl ho rfl ?_
    iterate 2 (refine mj_r_pure rfl rfl ?_)
    refine mj_r_putf rfl rfl ho rfl (Or.inl rfl) rfl rfl ?_
    refine mj_r_pure rfl rfl ?_
    exact mj_r_ret rfl rfl ⟨rfl, by rw [if_pos c1], rfl⟩
end CD
abbrev oOn (nu v : Int32) (b : Nat) : List Value := [.int nu, .int v, .ref b]
set_option maxRecDepth 20000 in
set_option maxHeartbeats 4000000 in
theorem K_OnPaper_init (h : mj_H) (a nx : Nat) (x y : Int32) (z : Value) (ho : h.1 6 a = some [.int x, .int y, z]) : mj_K me_OnPaper_init [.ref a] h nx 1 4 (fun r h' nx' => r = none ∧ h' = mj_so (mj_sl h nx 4 (fun _ => 0)) 6 a (oOn 0 0 nx) ∧ nx' = nx + 1) := by
  refine mj_K.of ok_OnPaper_init ck_OnPaper_init (Nat.le_of_ble_eq_true rfl) ?_
  refine mj_r_pure rfl rfl ?_
  refine mj_r_oi rfl oi_OnPaper (by decide) (by decide) ?_
  iterate 2 (refine mj_r_pure rfl rfl ?_)
  refine mj_r_putf rfl rfl ho rfl (Or.inl rfl) rfl rfl ?_
  iterate 2 (refine mj_r_pure rfl rfl ?_)
  refine mj_r_putf rfl rfl so_self rfl (Or.inl rfl) rfl rfl ?_
  iterate 2 (refine mj_r_pure rfl rfl ?_)
  refine mj_r_newJ (N := 4) rfl (by decide) (by decide) (by decide) ?_
  refine mj_r_putf rfl rfl (so_self (ci := 6) (a := a) (h := mj_so h 6 a [.int 0, .int y, z]) (x := [.int 0, .int 0, z])) rfl (Or.inr ⟨rfl, rfl, rfl⟩) rfl rfl ?_
  exact mj_r_ret rfl rfl ⟨rfl, by simp only [so_so]; rw [show mj_sl (mj_so h 6 a [.int 0, .int 0, z]) nx 4 (fun _ => 0) = mj_so (mj_sl h nx 4 (fun _ => 0)) 6 a [.int 0, .int 0, z] from rfl, so_so], rfl⟩
def w4 (f : Nat → Int64) (a b c d : Int64) : Nat → Int64 := vp_updL (vp_updL (vp_updL (vp_updL f 0 a) 1 b) 2 c) 3 d
set_option maxRecDepth 20000 in
set_option maxHeartbeats 4000000 in
theorem K_OnPaper_setBeside (h : mj_H) (a b nx : Nat) (nu v : Int32) (f : Nat → Int64) (w1 w2 w3 w4' : Int64) (ho : h.1 6 a = some (oOn nu v b)) (hb : h.2.2.1 b = some (4, f)) : cK me_OnPaper_setBeside [.ref a, .long w1, .long w2, .long w3, .long w4'] h nx none (mj_sl h b 4 (w4 f w1 w2 w3 w4')) := by
  refine mj_K.of ok_OnPaper_setBeside ck_OnPaper_setBeside (Nat.le_of_ble_eq_true rfl) ?_
  refine mj_r_pure rfl rfl ?_
  refine mj_r_getf rfl rfl ho rfl ?_
  iterate 2 (refine mj_r_pure rfl rfl ?_)
  refine cx_last rfl hb (show (0 : Int32) = nI 0 from rfl) (by omega) ?_
  refine mj_r_pure rfl rfl ?_
  refine mj_r_getf rfl rfl ho rfl ?_
  iterate 2 (refine mj_r_pure rfl rfl ?_)
  refine cx_last rfl sl_self (show (1 : Int32) = nI 1 from rfl) (by omega) ?_
  refine mj_r_pure rfl rfl ?_
  refine mj_r_getf rfl rfl ho rfl ?_
  iterate 2 (refine mj_r_pure rfl rfl ?_)
  refine cx_last rfl sl_self (show (2 : Int32) = nI 2 from rfl) (by omega) ?_
  refine mj_r_pure rfl rfl ?_
  refine mj_r_getf rfl rfl ho rfl ?_
  iterate 2 (refine mj_r_pure rfl rfl ?_)
  refine cx_last rfl sl_self (show (3 : Int32) = nI 3 from rfl) (by omega) ?_
  exact mj_r_ret rfl rfl ⟨rfl, by simp only [sl_sl]; rfl, rfl⟩
theorem and1 {n : Nat} (h : n < 2 ^ 31) : nI n &&& 1 = nI (n % 2) := pk_andN (by omega) 1 rfl
theorem shr1 {n : Nat} (h : n < 2 ^ 31) : nI n >>> (1 : Int32) = nI (n / 2) := pk_shrN h 1 1 rfl
set_option maxRecDepth 20000 in
set_option maxHeartbeats 4000000 in
theorem cl_up {Q : mj_post} {g h : mj_H} {nx a b num : Nat} {v w : Int32} {f : Nat → Int64} (ho : h.1 6 a = some (oOn (nI num) w b)) (hb : h.2.2.1 b = some (4, f)) (hnum : num < 16) (k : ∀ z : Int32, mj_W me_OnPaper_rootWith 82 [(0, .ref a), (1, .int v), (2, .int z), (3, .long (up_v num v f 4))] [] h g nx 0 0 Q) : ∀ (d j : Nat) (lv : List (Nat × Value)), j + d = 4 → mj_pk lv [0, 1, 2, 3, 5] = some [(0, .ref a), (1, .int v), (2, .int (nI ((16 + num) / 2 ^ j))), (3, .long (up_v num v f j)), (5, .int (nI j))] → mj_W me_OnPaper_rootWith 22 lv [] h g nx 0 0 Q := by
  intro d
  induction d with
  | zero =>
    intro j lv hj hlv
    have e : j = 4 := by omega
    subst e
    refine mj_W.fewer _ hlv ?_
    iterate 2 (refine mj_r_pure rfl rfl ?_)
    refine mj_r_icmp_ge rfl (fun c1 => ?_) (fun c1 => absurd c1 (fun q => q (nI_le (a := 4) (b := 4) (Nat.le_refl _) (by omega))))
    exact mj_W.fewer [0, 1, 2, 3] rfl (k _)
  | succ d ih =>
    intro j lv hj hlv
    refine mj_W.fewer _ hlv ?_
    have hb2 : (16 + num) / 2 ^ j < 2 ^ 31 := Nat.lt_of_le_of_lt (Nat.div_le_self _ _) (by omega)
    generalize hx : (16 + num) / 2 ^ j = xx at hb2 ⊢
    have e1 : nI xx &&& 1 = nI (xx % 2) := and1 hb2
    have e2 : nI xx >>> (1 &&& 31 : Int32) = nI (xx / 2) := shr1 hb2
    have e3 : (16 + num) / 2 ^ (j + 1) = xx / 2 := by rw [Nat.pow_succ, ← Nat.div_div_eq_div_mul, hx]
    have e4 : ∀ z, (if xx % 2 = 0 then sp_mix (up_v num v f j) (f j) else sp_mix (f j) (up_v num v f j)) = z → up_v num v f (j + 1) = z := fun z hz => by rw [← hz, ← hx]; rfl
    iterate 2 (refine mj_r_pure rfl rfl ?_)
    refine mj_r_icmp_ge rfl (fun c1 => absurd c1 (nI_ge (a := j) (b := 4) (by omega) (by omega))) (fun c1 => ?_)
    iterate 3 (refine mj_r_pure rfl rfl ?_)
    rw [e1]
    refine mj_r_if_ne rfl (fun c2 => ?_) (fun c2 => ?_)
    · iterate 3 (refine mj_r_pure rfl rfl ?_)
      refine mj_r_if_eq rfl (fun c3 => ?_) (fun c3 => absurd c3 (fun q => q rfl))
      refine mj_r_pure rfl rfl ?_
      refine mj_r_getf rfl rfl ho rfl ?_
      refine mj_r_pure rfl rfl ?_
      refine cx_lald rfl hb (by first | rfl | assumption) (by omega) ?_
      refine mj_r_pure rfl rfl ?_
      refine mj_r_callSN (kc := 0) (ks := 0) rfl li_OnPaper_22 ck_Top_mix iv_Top_mix (by decide) (K_Top_mix _ _ _ nx) rfl rfl (Nat.le_of_ble_eq_true rfl) ?_
      rintro _ _ _ ⟨rfl, rfl, rfl⟩ _
      iterate 7 (refine mj_r_pure rfl rfl ?_)
      exact ih (j + 1) _ (by omega) (by rw [e3, e4 _ (if_neg (fun z => c2 (by rw [z]; rfl))), ← e2, ← nI_1]; rfl)
    · iterate 4 (refine mj_r_pure rfl rfl ?_)
      refine mj_r_if_eq rfl (fun c4 => absurd c4 (by decide)) (fun c4 => ?_)
      iterate 2 (refine mj_r_pure rfl rfl ?_)
      refine mj_r_getf rfl rfl ho rfl ?_
      refine mj_r_pure rfl rfl ?_
      refine cx_lald rfl hb (by first | rfl | assumption) (by omega) ?_
      refine mj_r_callSN (kc := 0) (ks := 0) rfl li_OnPaper_22 ck_Top_mix iv_Top_mix (by decide) (K_Top_mix _ _ _ nx) rfl rfl (Nat.le_of_ble_eq_true rfl) ?_
      rintro _ _ _ ⟨rfl, rfl, rfl⟩ _
      iterate 8 (refine mj_r_pure rfl rfl ?_)
      exact ih (j + 1) _ (by omega) (by rw [e3, e4 _ (if_pos ((nI_eq (a := xx % 2) (b := 0) (by omega) (by omega)).mp c2)), ← e2, ← nI_1]; rfl)
set_option maxRecDepth 20000 in
set_option maxHeartbeats 4000000 in
theorem K_OnPaper_rootWith (h : mj_H) (a b num nx : Nat) (v w : Int32) (f : Nat → Int64) (ho : h.1 6 a = some (oOn (nI num) w b)) (hb : h.2.2.1 b = some (4, f)) (hnum : num < 16) : cK me_OnPaper_rootWith [.ref a, .int v] h nx (some (.long (up_v num v f 4))) h := by
  refine mj_K.of ok_OnPaper_rootWith ck_OnPaper_rootWith (Nat.le_of_ble_eq_true rfl) ?_
  iterate 2 (refine mj_r_pure rfl rfl ?_)
  refine mj_r_getf rfl rfl ho rfl ?_
  iterate 3 (refine mj_r_pure rfl rfl ?_)
  refine mj_r_getf rfl rfl ho rfl ?_
  iterate 3 (refine mj_r_pure rfl rfl ?_)
  refine mj_r_callSN (kc := 0) (ks := 0) rfl li_OnPaper_22 ck_Top_mix iv_Top_mix (by decide) (K_Top_mix _ _ _ nx) rfl rfl (Nat.le_of_ble_eq_true rfl) ?_
  rintro _ _ _ ⟨rfl, rfl, rfl⟩ _
  iterate 3 (refine mj_r_pure rfl rfl ?_)
  refine cl_up ho hb hnum (fun z => ?_) 4 0 _ rfl (by rw [show (16 + num) / 2 ^ 0 = 16 + num by omega, ← nI_add, show up_v num v f 0 = sp_mix (nI num).toInt64 v.toInt64 by rw [nI_l (by omega)]; rfl]; rfl)
  refine mj_r_pure rfl rfl ?_
  exact mj_r_lret rfl rfl ⟨rfl, rfl, rfl⟩
