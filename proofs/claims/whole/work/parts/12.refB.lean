/-! the reference's machine -/
/-- the 5 of the machine: turned left -/
def sp_rot (a c : Int32) : Int32 := a <<< (c &&& 31) ||| (a.toUInt32 >>> ((-c).toUInt32 &&& Int32.toUInt32 31)).toInt32
def sp_val (op a b c t : Int32) : Int32 :=
  if op = 0 then c else if op = 1 then a + b else if op = 2 then a - b else if op = 3 then a * b else if op = 4 then a ^^^ b else if op = 5 then sp_rot a c else if op = 6 then (if a < b then 1 else 0) else if op = 7 then t else b
def sp_written (S : rf_S) (k : Nat) : Int32 := if S.1 0 k = 9 then -1 else if S.1 0 k = 8 then S.1 9 (S.1 1 k).toNatClampNeg &&& 15 else S.1 1 k
def sp_va (S : rf_S) (k : Nat) : Int32 := S.1 9 (S.1 1 k).toNatClampNeg
def sp_vb (S : rf_S) (k : Nat) : Int32 := S.1 9 (S.1 2 k).toNatClampNeg
def sp_valueOf (S : rf_S) (k : Nat) : Int32 := sp_val (S.1 0 k) (sp_va S k) (sp_vb S k) (S.1 3 k) (S.1 9 (sp_vb S k &&& 15).toNatClampNeg)
def sp_behind (S : rf_S) (k : Nat) (p : Int32) : Int32 := if S.1 0 k = 9 ∧ ¬ sp_va S k = 0 then S.1 3 k else p + 1
set_option maxRecDepth 20000 in
set_option maxHeartbeats 4000000 in
theorem K_Ref_written (S : rf_S) (k a nx : Nat) (hk : k < 216) (ha : S.1 1 k = nI a) (ha2 : a < 16) : rK me_Ref_written [.int (nI k)] S nx (some (.int (sp_written S k))) S := by
  refine mj_K.of ok_Ref_written ck_Ref_written (Nat.le_of_ble_eq_true rfl) ?_
  refine mj_r_pure rfl rfl ?_
  refine rr_get rfl rfl rfl ?_
  refine mj_r_pure rfl rfl ?_
  refine rx_iald rfl rfl (by first | rfl | assumption) (by omega) ?_
  iterate 3 (refine mj_r_pure rfl rfl ?_)
  refine mj_r_icmp_ne rfl (fun c1 => ?_) (fun c1 => ?_)
  · iterate 2 (refine mj_r_pure rfl rfl ?_)
    refine mj_r_icmp_ne rfl (fun c2 => ?_) (fun c2 => ?_)
    · refine mj_r_pure rfl rfl ?_
      refine rr_get rfl rfl rfl ?_
      refine mj_r_pure rfl rfl ?_
      refine rx_iald rfl rfl (by first | rfl | assumption) (by omega) ?_
      exact mj_r_iret rfl rfl rfl ⟨by rw [sp_written, if_neg c1, if_neg c2], rfl, rfl⟩
    · refine mj_r_pure rfl rfl ?_
      refine rr_get rfl rfl rfl ?_
      refine mj_r_pure rfl rfl ?_
      refine rr_get rfl rfl rfl ?_
      refine mj_r_pure rfl rfl ?_
      refine rx_iald rfl rfl (by first | rfl | assumption) (by omega) ?_
      refine rx_iald rfl rfl (by first | rfl | assumption) (by omega) ?_
      iterate 3 (refine mj_r_pure rfl rfl ?_)
      exact mj_r_iret rfl rfl rfl ⟨by rw [sp_written, if_neg c1, if_pos c2, ha, nI_clamp (by omega)], rfl, rfl⟩
  · iterate 2 (refine mj_r_pure rfl rfl ?_)
    exact mj_r_iret rfl rfl rfl ⟨by rw [sp_written, if_pos c1], rfl, rfl⟩
set_option maxRecDepth 20000 in
set_option maxHeartbeats 4000000 in
theorem K_Ref_placeBehind (S : rf_S) (k a nx : Nat) (p : Int32) (hk : k < 216) (ha : S.1 1 k = nI a) (ha2 : a < 16) : rK me_Ref_placeBehind [.int (nI k), .int p] S nx (some (.int (sp_behind S k p))) S := by
  have hA : sp_va S k = S.1 9 a := by rw [sp_va, ha, nI_clamp (by omega)]
  refine mj_K.of ok_Ref_placeBehind ck_Ref_placeBehind (Nat.le_of_ble_eq_true rfl) ?_
  refine mj_r_pure rfl rfl ?_
  refine rr_get rfl rfl rfl ?_
  refine mj_r_pure rfl rfl ?_
  refine rx_iald rfl rfl (by first | rfl | assumption) (by omega) ?_
  refine mj_r_pure rfl rfl ?_
  refine mj_r_icmp_ne rfl (fun c1 => ?_) (fun c1 => ?_)
  · iterate 3 (refine mj_r_pure rfl rfl ?_)
    exact mj_r_iret rfl rfl rfl ⟨by rw [sp_behind, if_neg (fun q => c1 q.1)], rfl, rfl⟩
  · refine mj_r_pure rfl rfl ?_
    refine rr_get rfl rfl rfl ?_
    refine mj_r_pure rfl rfl ?_
    refine rr_get rfl rfl rfl ?_
    refine mj_r_pure rfl rfl ?_
    refine rx_iald rfl rfl (by first | rfl | assumption) (by omega) ?_
    refine rx_iald rfl rfl (by first | rfl | assumption) (by omega) ?_
    refine mj_r_if_eq rfl (fun c2 => ?_) (fun c2 => ?_)
    · iterate 3 (refine mj_r_pure rfl rfl ?_)
      exact mj_r_iret rfl rfl rfl ⟨by rw [sp_behind, if_neg (fun q => q.2 (hA.trans c2))], rfl, rfl⟩
    · refine mj_r_pure rfl rfl ?_
      refine rr_get rfl rfl rfl ?_
      refine mj_r_pure rfl rfl ?_
      refine rx_iald rfl rfl (by first | rfl | assumption) (by omega) ?_
      refine mj_r_pure rfl rfl ?_
      exact mj_r_iret rfl rfl rfl ⟨by rw [sp_behind, if_pos ⟨c1, fun q => c2 (hA.symm.trans q)⟩], rfl, rfl⟩
theorem sp_m31 (c : Int32) : ∃ k : Nat, k < 32 ∧ c &&& 31 = nI k := pk_andE c 5 rfl
theorem sp_m15 (c : Int32) : ∃ k : Nat, k < 16 ∧ c &&& 15 = nI k := pk_andE c 4 rfl
/-- the reference's own way to turn -/
def sp_rotR (a c : Int32) : Int32 := a <<< (c &&& 31 &&& 31) ||| ((a.toInt64 &&& 4294967295).toUInt64 >>> ((32 - (c &&& 31)).toInt64.toUInt64 &&& Int64.toUInt64 63)).toInt64.toInt32
set_option maxRecDepth 20000 in
set_option maxHeartbeats 4000000 in
theorem K_Ref_valueOf_open (hrot : ∀ a c : Int32, sp_rotR a c = sp_rot a c) (S : rf_S) (k a b nx : Nat) (hk : k < 216) (ha : S.1 1 k = nI a) (ha2 : a < 16) (hb : S.1 2 k = nI b) (hb2 : b < 16) : rK me_Ref_valueOf [.int (nI k)] S nx (some (.int (sp_valueOf S k))) S := by
  have hA : sp_va S k = S.1 9 a := by rw [sp_va, ha, nI_clamp (by omega)]
  have hB : sp_vb S k = S.1 9 b := by rw [sp_vb, hb, nI_clamp (by omega)]
  unfold sp_valueOf
  rw [hA, hB]
  obtain ⟨t, ht, ht2⟩ := sp_m15 (S.1 9 b)
  refine mj_K.of ok_Ref_valueOf ck_Ref_valueOf (Nat.le_of_ble_eq_true rfl) ?_
  refine mj_r_pure rfl rfl ?_
  refine rr_get rfl rfl rfl ?_
  refine mj_r_pure rfl rfl ?_
  refine rr_get rfl rfl rfl ?_
  refine mj_r_pure rfl rfl ?_
  refine rx_iald rfl rfl (by first | rfl | assumption) (by omega) ?_
  refine rx_iald rfl rfl (by first | rfl | assumption) (by omega) ?_
  iterate 2 (refine mj_r_pure rfl rfl ?_)
  refine rr_get rfl rfl rfl ?_
  refine mj_r_pure rfl rfl ?_
  refine rr_get rfl rfl rfl ?_
  refine mj_r_pure rfl rfl ?_
  refine rx_iald rfl rfl (by first | rfl | assumption) (by omega) ?_
  refine rx_iald rfl rfl (by first | rfl | assumption) (by omega) ?_
  iterate 2 (refine mj_r_pure rfl rfl ?_)
  refine rr_get rfl rfl rfl ?_
  refine mj_r_pure rfl rfl ?_
  refine rx_iald rfl rfl (by first | rfl | assumption) (by omega) ?_
  iterate 2 (refine mj_r_pure rfl rfl ?_)
  refine rr_get rfl rfl rfl ?_
  refine mj_r_pure rfl rfl ?_
  refine rx_iald rfl rfl (by first | rfl | assumption) (by omega) ?_
  generalize hop : S.1 0 k = op
  by_cases c_0 : op = 0
  · subst c_0
    refine mj_r_switch (t := 84) rfl (Or.inr ⟨by decide +kernel, by decide +kernel, 46, by decide +kernel, by decide +kernel⟩) ?_
    refine mj_r_pure rfl rfl ?_
    exact mj_r_iret rfl rfl rfl ⟨rfl, rfl, rfl⟩
  by_cases c_1 : op = 1
  · subst c_1
    refine mj_r_switch (t := 87) rfl (Or.inr ⟨by decide +kernel, by decide +kernel, 49, by decide +kernel, by decide +kernel⟩) ?_
    iterate 3 (refine mj_r_pure rfl rfl ?_)
    exact mj_r_iret rfl rfl rfl ⟨rfl, rfl, rfl⟩
  by_cases c_2 : op = 2
  · subst c_2
    refine mj_r_switch (t := 91) rfl (Or.inr ⟨by decide +kernel, by decide +kernel, 53, by decide +kernel, by decide +kernel⟩) ?_
    iterate 3 (refine mj_r_pure rfl rfl ?_)
    exact mj_r_iret rfl rfl rfl ⟨rfl, rfl, rfl⟩
  by_cases c_3 : op = 3
  · subst c_3
    refine mj_r_switch (t := 95) rfl (Or.inr ⟨by decide +kernel, by decide +kernel, 57, by decide +kernel, by decide +kernel⟩) ?_
    iterate 3 (refine mj_r_pure rfl rfl ?_)
    exact mj_r_iret rfl rfl rfl ⟨rfl, rfl, rfl⟩
  by_cases c_4 : op = 4
  · subst c_4
    refine mj_r_switch (t := 99) rfl (Or.inr ⟨by decide +kernel, by decide +kernel, 61, by decide +kernel, by decide +kernel⟩) ?_
    iterate 3 (refine mj_r_pure rfl rfl ?_)
    exact mj_r_iret rfl rfl rfl ⟨rfl, rfl, rfl⟩
  by_cases c_5 : op = 5
  · subst c_5
    refine mj_r_switch (t := 103) rfl (Or.inr ⟨by decide +kernel, by decide +kernel, 65, by decide +kernel, by decide +kernel⟩) ?_
    iterate 17 (refine mj_r_pure rfl rfl ?_)
    exact mj_r_iret rfl rfl rfl ⟨congrArg (fun z => some (Value.int z)) (hrot _ _), rfl, rfl⟩
  by_cases c_6 : op = 6
  · subst c_6
    refine mj_r_switch (t := 128) rfl (Or.inr ⟨by decide +kernel, by decide +kernel, 90, by decide +kernel, by decide +kernel⟩) ?_
    iterate 2 (refine mj_r_pure rfl rfl ?_)
    refine mj_r_icmp_ge rfl (fun c1 => ?_) (fun c1 => ?_)
    · refine mj_r_pure rfl rfl ?_
      exact mj_r_iret rfl rfl rfl ⟨by show _ = some (Value.int (if S.1 9 a < S.1 9 b then 1 else 0)); rw [if_neg (fun q => absurd c1 (by rw [Int32.le_iff_toInt_le]; rw [Int32.lt_iff_toInt_lt] at q; omega))], rfl, rfl⟩
    · iterate 2 (refine mj_r_pure rfl rfl ?_)
      exact mj_r_iret rfl rfl rfl ⟨by show _ = some (Value.int (if S.1 9 a < S.1 9 b then 1 else 0)); rw [if_pos (nge_lt c1)], rfl, rfl⟩
  by_cases c_7 : op = 7
  · subst c_7
    refine mj_r_switch (t := 139) rfl (Or.inr ⟨by decide +kernel, by decide +kernel, 101, by decide +kernel, by decide +kernel⟩) ?_
    refine mj_r_pure rfl rfl ?_
    refine rr_get rfl rfl rfl ?_
    iterate 3 (refine mj_r_pure rfl rfl ?_)
    refine rx_iald rfl rfl (by first | rfl | assumption) (by omega) ?_
    exact mj_r_iret rfl rfl rfl ⟨by show _ = some (Value.int (S.1 9 (S.1 9 b &&& 15).toNatClampNeg)); rw [ht2, nI_clamp (by omega)], rfl, rfl⟩
  refine mj_r_switch (t := 149) rfl (Or.inl ⟨by have e_0 := lv_neT (a := 0) c_0 (by decide +kernel); have e_1 := lv_neT (a := 1) c_1 (by decide +kernel); have e_2 := lv_neT (a := 2) c_2 (by decide +kernel); have e_3 := lv_neT (a := 3) c_3 (by decide +kernel); have e_4 := lv_neT (a := 4) c_4 (by decide +kernel); have e_5 := lv_neT (a := 5) c_5 (by decide +kernel); have e_6 := lv_neT (a := 6) c_6 (by decide +kernel); have e_7 := lv_neT (a := 7) c_7 (by decide +kernel); omega, by decide⟩) ?_
  refine mj_r_pure rfl rfl ?_
  exact mj_r_iret rfl rfl rfl ⟨by rw [sp_val, if_neg c_0, if_neg c_1, if_neg c_2, if_neg c_3, if_neg c_4, if_neg c_5, if_neg c_6, if_neg c_7], rfl, rfl⟩
