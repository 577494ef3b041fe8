/-! small contracts -/
def sp_mix (x y : Int64) : Int64 :=
  (((x * -7046029254386353131 + y) ^^^ ((x * -7046029254386353131 + y).toUInt64 >>> ((29 : Int32).toInt64.toUInt64 &&& Int64.toUInt64 63)).toInt64) * -4658895280553007687) ^^^ ((((x * -7046029254386353131 + y) ^^^ ((x * -7046029254386353131 + y).toUInt64 >>> ((29 : Int32).toInt64.toUInt64 &&& Int64.toUInt64 63)).toInt64) * -4658895280553007687).toUInt64 >>> ((32 : Int32).toInt64.toUInt64 &&& Int64.toUInt64 63)).toInt64
set_option maxRecDepth 10000 in
theorem c_Top_mix (x y : Int64) (h : mj_H) (nx : Nat) : mj_K me_Top_mix [.long x, .long y] h nx 0 0 (fun r h' nx' => r = some (.long (sp_mix x y)) ∧ h' = h ∧ nx' = nx) := by
  refine mj_K.of ok_Top_mix ck_Top_mix (Nat.le_of_ble_eq_true rfl) ?_
  repeat (refine mj_r_pure rfl rfl ?_)
  exact mj_r_lret rfl rfl ⟨rfl, rfl, rfl⟩
set_option maxRecDepth 10000 in
theorem c_Top_isCell (k : Int32) (h : mj_H) (nx : Nat) : mj_K me_Top_isCell [.int k] h nx 0 0 (fun r h' nx' => r = some (.int (if 0 ≤ k ∧ k < 16 then 1 else 0)) ∧ h' = h ∧ nx' = nx) := by
  refine mj_K.of ok_Top_isCell ck_Top_isCell (Nat.le_of_ble_eq_true rfl) ?_
  refine mj_r_pure rfl rfl ?_
  refine mj_r_if_lt rfl (fun c1 => ?_) (fun c1 => ?_)
  · refine mj_r_pure rfl rfl ?_
    exact mj_r_iret rfl rfl rfl ⟨by rw [if_neg]; sorry, rfl, rfl⟩
  · repeat (refine mj_r_pure rfl rfl ?_)
    refine mj_r_icmp_ge rfl (fun c2 => ?_) (fun c2 => ?_)
    · repeat (refine mj_r_pure rfl rfl ?_)
      exact mj_r_iret rfl rfl rfl ⟨by sorry, rfl, rfl⟩
    · repeat (refine mj_r_pure rfl rfl ?_)
      exact mj_r_iret rfl rfl rfl ⟨by sorry, rfl, rfl⟩
