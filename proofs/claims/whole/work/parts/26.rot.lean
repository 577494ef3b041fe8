/-! the reference's turning is the document's -/
theorem rot_amt : ∀ k, k < 32 → ((32 - nI k).toInt64.toUInt64 &&& Int64.toUInt64 63) = UInt64.ofNat (32 - k) := by decide +kernel
theorem rot_amt2 : ∀ k, k < 32 → ((UInt64.ofNat (32 - k)).toBitVec % 64).toNat = 32 - k := by decide +kernel
theorem rot_sx (a : BitVec 32) : (a.signExtend 64).toNat % 2 ^ 32 = a.toNat := by
  rw [BitVec.toNat_signExtend, BitVec.toNat_setWidth]
  have h := a.isLt
  split <;> omega
theorem rot_u (a : Int32) (k : Nat) (hk : k < 32) : ((a.toInt64 &&& 4294967295).toUInt64 >>> ((32 - nI k).toInt64.toUInt64 &&& Int64.toUInt64 63)).toInt64.toInt32.toBitVec.toNat = a.toBitVec.toNat / 2 ^ (32 - k) := by
  rw [rot_amt k hk]
  have e1 : ((a.toInt64 &&& 4294967295).toUInt64 >>> UInt64.ofNat (32 - k)).toInt64.toInt32.toBitVec = ((a.toBitVec.signExtend 64 &&& 4294967295#64) >>> ((UInt64.ofNat (32 - k)).toBitVec % 64)).signExtend 32 := rfl
  rw [e1, BitVec.signExtend_eq_setWidth_of_le _ (by omega), BitVec.toNat_setWidth, BitVec.ushiftRight_eq', BitVec.toNat_ushiftRight, rot_amt2 k hk, BitVec.toNat_and]
  have e2 : (4294967295#64).toNat = 2 ^ 32 - 1 := by decide +kernel
  rw [e2, Nat.and_two_pow_sub_one_eq_mod, rot_sx, Nat.shiftRight_eq_div_pow]
  have h := a.toBitVec.isLt
  have h2 : a.toBitVec.toNat / 2 ^ (32 - k) ≤ a.toBitVec.toNat := Nat.div_le_self _ _
  exact Nat.mod_eq_of_lt (by omega)
theorem rot_neg (c : Int32) (k : Nat) (hk : k < 32) (h : c.toBitVec.toNat % 32 = k) : (((-c).toUInt32 &&& Int32.toUInt32 31).toBitVec % 32).toNat = (32 - k) % 32 := by
  have e1 : ((-c).toUInt32 &&& Int32.toUInt32 31).toBitVec = -c.toBitVec &&& 31#32 := rfl
  rw [e1, BitVec.toNat_umod, BitVec.toNat_and, BitVec.toNat_neg]
  have e2 : (31#32).toNat = 2 ^ 5 - 1 := by decide +kernel
  have e3 : (32 : BitVec 32).toNat = 32 := by decide +kernel
  rw [e2, e3, Nat.and_two_pow_sub_one_eq_mod]
  have hl := c.toBitVec.isLt
  omega
theorem hrot (a c : Int32) : sp_rotR a c = sp_rot a c := by
  have hc : c &&& 31 = nI (c.toBitVec.toNat % 2 ^ 5) := pk_and c 5 rfl
  generalize hk : c.toBitVec.toNat % 2 ^ 5 = k at hc
  have hk2 : k < 32 := by omega
  have hm : nI k &&& 31 = nI k := by rw [pk_andN (by omega) 5 rfl, Nat.mod_eq_of_lt (by omega)]
  unfold sp_rotR sp_rot
  rw [hc, hm]
  have h1 := rot_u a k hk2
  have h2 := pk_ushr a (-c) ((32 - k) % 32) (rot_neg c k hk2 hk)
  by_cases k0 : k = 0
  · subst k0
    have e1 : ((a.toInt64 &&& 4294967295).toUInt64 >>> ((32 - nI 0).toInt64.toUInt64 &&& Int64.toUInt64 63)).toInt64.toInt32 = 0 := by
      refine Int32.toBitVec_inj.mp (BitVec.eq_of_toNat_eq (h1.trans ?_))
      have h := a.toBitVec.isLt
      exact Nat.div_eq_of_lt (by omega)
    have e2 : (a.toUInt32 >>> ((-c).toUInt32 &&& Int32.toUInt32 31)).toInt32 = a := by
      refine Int32.toBitVec_inj.mp (BitVec.eq_of_toNat_eq (h2.trans ?_))
      exact Nat.div_one _
    have e3 : a <<< nI 0 = a := by
      refine Int32.toBitVec_inj.mp (BitVec.eq_of_toNat_eq ((pk_shl a (nI 0) 0 rfl).trans ?_))
      have h := a.toBitVec.isLt
      omega
    rw [e1, e2, e3]
    refine Int32.toBitVec_inj.mp ?_
    show a.toBitVec ||| 0#32 = a.toBitVec ||| a.toBitVec
    rw [BitVec.or_self, BitVec.or_zero]
  · have e : (32 - k) % 32 = 32 - k := by omega
    rw [e] at h2
    exact congrArg (fun z => a <<< nI k ||| z) (Int32.toBitVec_inj.mp (BitVec.eq_of_toNat_eq (h1.trans h2.symm)))
