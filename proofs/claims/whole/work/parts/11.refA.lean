/-! the reference's small methods -/
theorem rf_NI : ∀ e ∈ rf_it, e.2.2 < 2 ^ 31 := by decide +kernel
theorem rf_NJ : ∀ e ∈ rf_jt, e.2.2 < 2 ^ 31 := by decide +kernel
theorem ix_add {a b : Int32} {x y : Nat} (h1 : a = nI x) (h2 : b = nI y) : a + b = nI (x + y) := by rw [h1, h2, nI_add]
theorem ix_mul {a b : Int32} {x y : Nat} (h1 : a = nI x) (h2 : b = nI y) : a * b = nI (x * y) := by rw [h1, h2, pk_mul]
section RX
variable {M : mj_M} {Q : mj_post} {pc len n : Nat} {x : Value} {lv lv' : List (Nat × Value)} {st r : List Value} {g : mj_H} {nx kc ks : Nat} {S : rf_S}
theorem rx_iald {a p N j : Nat} {i : Int32} (hd : mj_find (mj_tab M) pc = some (.iaload, 1, x, n)) (hk : rf_look rf_it a = some (p, N)) (he : i = nI j) (hl : j < N) (kk : mj_W M n lv (.int (S.1 p j) :: r) (rf_h S) g nx kc ks Q) : mj_W M pc lv (.int i :: .ref a :: r) (rf_h S) g nx kc ks Q := by
  have hN : N < 2 ^ 31 := rf_NI _ (rf_look_mem hk)
  subst he
  exact rr_iald hd hk (vp_in_nI hl hN) (nI_clamp (by omega)) kk
theorem rx_lald {a p N j : Nat} {i : Int32} (hd : mj_find (mj_tab M) pc = some (.laload, 1, x, n)) (hk : rf_look rf_jt a = some (p, N)) (he : i = nI j) (hl : j < N) (kk : mj_W M n lv (.long (S.2 p j) :: r) (rf_h S) g nx kc ks Q) : mj_W M pc lv (.int i :: .ref a :: r) (rf_h S) g nx kc ks Q := by
  have hN : N < 2 ^ 31 := rf_NJ _ (rf_look_mem hk)
  subst he
  exact rr_lald hd hk (vp_in_nI hl hN) (nI_clamp (by omega)) kk
theorem rx_iast {a p N j : Nat} {i v : Int32} (hd : mj_find (mj_tab M) pc = some (.iastore, 1, x, n)) (hk : rf_look rf_it a = some (p, N)) (he : i = nI j) (hl : j < N) (kk : mj_W M n lv r (rf_h (sA S p j v)) g nx kc ks Q) : mj_W M pc lv (.int v :: .int i :: .ref a :: r) (rf_h S) g nx kc ks Q := by
  have hN : N < 2 ^ 31 := rf_NI _ (rf_look_mem hk)
  subst he
  exact rr_iast hd hk (vp_in_nI hl hN) (nI_clamp (by omega)) kk
theorem rx_last {a p N j : Nat} {i : Int32} {v : Int64} (hd : mj_find (mj_tab M) pc = some (.lastore, 1, x, n)) (hk : rf_look rf_jt a = some (p, N)) (he : i = nI j) (hl : j < N) (kk : mj_W M n lv r (rf_h (sL S p j v)) g nx kc ks Q) : mj_W M pc lv (.long v :: .int i :: .ref a :: r) (rf_h S) g nx kc ks Q := by
  have hN : N < 2 ^ 31 := rf_NJ _ (rf_look_mem hk)
  subst he
  exact rr_last hd hk (vp_in_nI hl hN) (nI_clamp (by omega)) kk
end RX
/-- an answer of a private test -/
def bI (c : Prop) [Decidable c] : Int32 := if c then 1 else 0
theorem bI_t {c : Prop} [Decidable c] (h : c) : bI c = 1 := if_pos h
theorem bI_f {c : Prop} [Decidable c] (h : ¬ c) : bI c = 0 := if_neg h
theorem bI_0 {c : Prop} [Decidable c] : bI c = 0 ↔ ¬ c := by
  by_cases h : c
  · simp [bI, h]
  · simp [bI, h]
theorem bI_n {c : Prop} [Decidable c] : narrow .boolean (.int (bI c)) = .int (bI c) := by
  by_cases h : c
  · rw [bI_t h]; exact congrArg Value.int (by decide +kernel)
  · rw [bI_f h]; exact congrArg Value.int (by decide +kernel)
/-- a contract of the reference: the answer v, the state S' -/
abbrev rK (M : mj_M) (as : List Value) (S : rf_S) (nx : Nat) (v : Option Value) (S' : rf_S) : Prop := mj_K M (.ref 21 :: as) (rf_h S) nx 0 0 (fun r h' nx' => r = v ∧ h' = rf_h S' ∧ nx = nx')
def sp_mix (x y : Int64) : Int64 :=
  (((x * -7046029254386353131 + y) ^^^ ((x * -7046029254386353131 + y).toUInt64 >>> ((29 : Int32).toInt64.toUInt64 &&& Int64.toUInt64 63)).toInt64) * -4658895280553007687) ^^^ ((((x * -7046029254386353131 + y) ^^^ ((x * -7046029254386353131 + y).toUInt64 >>> ((29 : Int32).toInt64.toUInt64 &&& Int64.toUInt64 63)).toInt64) * -4658895280553007687).toUInt64 >>> ((32 : Int32).toInt64.toUInt64 &&& Int64.toUInt64 63)).toInt64
set_option maxRecDepth 20000 in
set_option maxHeartbeats 4000000 in
theorem K_Top_mix (x y : Int64) (h : mj_H) (nx : Nat) : mj_K me_Top_mix [.long x, .long y] h nx 0 0 (fun r h' nx' => r = some (.long (sp_mix x y)) ∧ h' = h ∧ nx = nx') := by
  refine mj_K.of ok_Top_mix ck_Top_mix (Nat.le_of_ble_eq_true rfl) ?_
  repeat (refine mj_r_pure rfl rfl ?_)
  exact mj_r_lret rfl rfl ⟨rfl, rfl, rfl⟩
set_option maxRecDepth 20000 in
set_option maxHeartbeats 4000000 in
theorem K_Ref_mix (x y : Int64) (h : mj_H) (nx : Nat) : mj_K me_Ref_mix [.long x, .long y] h nx 0 0 (fun r h' nx' => r = some (.long (sp_mix x y)) ∧ h' = h ∧ nx = nx') := by
  refine mj_K.of ok_Ref_mix ck_Ref_mix (Nat.le_of_ble_eq_true rfl) ?_
  repeat (refine mj_r_pure rfl rfl ?_)
  exact mj_r_lret rfl rfl ⟨rfl, rfl, rfl⟩
theorem lt0_nle {x : Int32} (h : x < 0) (n : Int32) : ¬ (0 ≤ x ∧ x < n) := fun q => by
  have h1 := Int32.lt_iff_toInt_lt.mp h
  have h2 := Int32.le_iff_toInt_le.mp q.1
  omega
theorem nlt0_le {x : Int32} (h : ¬ x < 0) : 0 ≤ x := by
  rw [Int32.lt_iff_toInt_lt] at h
  rw [Int32.le_iff_toInt_le]
  omega
theorem ge_nlt {x n : Int32} (h : n ≤ x) : ¬ (0 ≤ x ∧ x < n) := fun q => by
  have h1 := Int32.le_iff_toInt_le.mp h
  have h2 := Int32.lt_iff_toInt_lt.mp q.2
  omega
theorem nge_lt {x n : Int32} (h : ¬ n ≤ x) : x < n := by
  rw [Int32.le_iff_toInt_le] at h
  rw [Int32.lt_iff_toInt_lt]
  omega
/-- a number of something -/
abbrev isN (x n : Int32) : Prop := 0 ≤ x ∧ x < n
set_option maxRecDepth 20000 in
set_option maxHeartbeats 4000000 in
theorem K_Ref_isBatch (S : rf_S) (b : Int32) (nx : Nat) : rK me_Ref_isBatch [.int b] S nx (some (.int (bI (isN b (S.1 5 0))))) S := by
  refine mj_K.of ok_Ref_isBatch ck_Ref_isBatch (Nat.le_of_ble_eq_true rfl) ?_
  repeat (first | refine mj_r_pure rfl rfl ?_ | refine rr_get rfl rfl rfl ?_)
  refine mj_r_if_lt rfl (fun c1 => ?_) (fun c1 => ?_)
  · repeat (first | refine mj_r_pure rfl rfl ?_ | refine rr_get rfl rfl rfl ?_)
    exact mj_r_iret rfl rfl rfl ⟨by rw [bI_f (lt0_nle c1 _)], rfl, rfl⟩
  · repeat (first | refine mj_r_pure rfl rfl ?_ | refine rr_get rfl rfl rfl ?_)
    refine mj_r_icmp_ge rfl (fun c2 => ?_) (fun c2 => ?_)
    · repeat (first | refine mj_r_pure rfl rfl ?_ | refine rr_get rfl rfl rfl ?_)
      exact mj_r_iret rfl rfl rfl ⟨by rw [bI_f (ge_nlt c2)], rfl, rfl⟩
    · repeat (first | refine mj_r_pure rfl rfl ?_ | refine rr_get rfl rfl rfl ?_)
      exact mj_r_iret rfl rfl rfl ⟨by rw [bI_t ⟨nlt0_le c1, nge_lt c2⟩], rfl, rfl⟩
set_option maxRecDepth 20000 in
set_option maxHeartbeats 4000000 in
theorem K_Ref_isClaim (S : rf_S) (b : Int32) (nx : Nat) : rK me_Ref_isClaim [.int b] S nx (some (.int (bI (isN b (S.1 15 0))))) S := by
  refine mj_K.of ok_Ref_isClaim ck_Ref_isClaim (Nat.le_of_ble_eq_true rfl) ?_
  repeat (first | refine mj_r_pure rfl rfl ?_ | refine rr_get rfl rfl rfl ?_)
  refine mj_r_if_lt rfl (fun c1 => ?_) (fun c1 => ?_)
  · repeat (first | refine mj_r_pure rfl rfl ?_ | refine rr_get rfl rfl rfl ?_)
    exact mj_r_iret rfl rfl rfl ⟨by rw [bI_f (lt0_nle c1 _)], rfl, rfl⟩
  · repeat (first | refine mj_r_pure rfl rfl ?_ | refine rr_get rfl rfl rfl ?_)
    refine mj_r_icmp_ge rfl (fun c2 => ?_) (fun c2 => ?_)
    · repeat (first | refine mj_r_pure rfl rfl ?_ | refine rr_get rfl rfl rfl ?_)
      exact mj_r_iret rfl rfl rfl ⟨by rw [bI_f (ge_nlt c2)], rfl, rfl⟩
    · repeat (first | refine mj_r_pure rfl rfl ?_ | refine rr_get rfl rfl rfl ?_)
      exact mj_r_iret rfl rfl rfl ⟨by rw [bI_t ⟨nlt0_le c1, nge_lt c2⟩], rfl, rfl⟩
set_option maxRecDepth 20000 in
set_option maxHeartbeats 4000000 in
theorem K_Ref_isDispute (S : rf_S) (b : Int32) (nx : Nat) : rK me_Ref_isDispute [.int b] S nx (some (.int (bI (isN b (S.1 21 0))))) S := by
  refine mj_K.of ok_Ref_isDispute ck_Ref_isDispute (Nat.le_of_ble_eq_true rfl) ?_
  repeat (first | refine mj_r_pure rfl rfl ?_ | refine rr_get rfl rfl rfl ?_)
  refine mj_r_if_lt rfl (fun c1 => ?_) (fun c1 => ?_)
  · repeat (first | refine mj_r_pure rfl rfl ?_ | refine rr_get rfl rfl rfl ?_)
    exact mj_r_iret rfl rfl rfl ⟨by rw [bI_f (lt0_nle c1 _)], rfl, rfl⟩
  · repeat (first | refine mj_r_pure rfl rfl ?_ | refine rr_get rfl rfl rfl ?_)
    refine mj_r_icmp_ge rfl (fun c2 => ?_) (fun c2 => ?_)
    · repeat (first | refine mj_r_pure rfl rfl ?_ | refine rr_get rfl rfl rfl ?_)
      exact mj_r_iret rfl rfl rfl ⟨by rw [bI_f (ge_nlt c2)], rfl, rfl⟩
    · repeat (first | refine mj_r_pure rfl rfl ?_ | refine rr_get rfl rfl rfl ?_)
      exact mj_r_iret rfl rfl rfl ⟨by rw [bI_t ⟨nlt0_le c1, nge_lt c2⟩], rfl, rfl⟩
set_option maxRecDepth 20000 in
set_option maxHeartbeats 4000000 in
theorem K_Ref_isPlayer (b : Int32) (h : mj_H) (nx : Nat) : mj_K me_Ref_isPlayer [.int b] h nx 0 0 (fun r h' nx' => r = some (.int (bI (isN b 8))) ∧ h' = h ∧ nx = nx') := by
  refine mj_K.of ok_Ref_isPlayer ck_Ref_isPlayer (Nat.le_of_ble_eq_true rfl) ?_
  repeat (refine mj_r_pure rfl rfl ?_)
  refine mj_r_if_lt rfl (fun c1 => ?_) (fun c1 => ?_)
  · repeat (refine mj_r_pure rfl rfl ?_)
    exact mj_r_iret rfl rfl rfl ⟨by rw [bI_f (lt0_nle c1 _)], rfl, rfl⟩
  · repeat (refine mj_r_pure rfl rfl ?_)
    refine mj_r_icmp_ge rfl (fun c2 => ?_) (fun c2 => ?_)
    · repeat (refine mj_r_pure rfl rfl ?_)
      exact mj_r_iret rfl rfl rfl ⟨by rw [bI_f (ge_nlt c2)], rfl, rfl⟩
    · repeat (refine mj_r_pure rfl rfl ?_)
      exact mj_r_iret rfl rfl rfl ⟨by rw [bI_t ⟨nlt0_le c1, nge_lt c2⟩], rfl, rfl⟩
/-- where the instruction of a batch stands -/
def sp_at (S : rf_S) (b : Nat) (p : Int32) : Int32 := if isN p (S.1 6 b) then nI (24 * b) + p else -1
set_option maxRecDepth 20000 in
set_option maxHeartbeats 4000000 in
theorem K_Ref_at (S : rf_S) (b : Nat) (p : Int32) (nx : Nat) (hb : b < 8) : rK me_Ref_at [.int (nI b), .int p] S nx (some (.int (sp_at S b p))) S := by
  refine mj_K.of ok_Ref_at ck_Ref_at (Nat.le_of_ble_eq_true rfl) ?_
  repeat (first | refine mj_r_pure rfl rfl ?_ | refine rr_get rfl rfl rfl ?_)
  refine mj_r_if_lt rfl (fun c1 => ?_) (fun c1 => ?_)
  · repeat (first | refine mj_r_pure rfl rfl ?_ | refine rr_get rfl rfl rfl ?_)
    exact mj_r_iret rfl rfl rfl ⟨by rw [sp_at, if_neg (lt0_nle c1 _)], rfl, rfl⟩
  · repeat (first | refine mj_r_pure rfl rfl ?_ | refine rr_get rfl rfl rfl ?_)
    refine rx_iald rfl rfl (by first | rfl | assumption) (by omega) ?_
    repeat (first | refine mj_r_pure rfl rfl ?_ | refine rr_get rfl rfl rfl ?_)
    refine mj_r_icmp_ge rfl (fun c2 => ?_) (fun c2 => ?_)
    · repeat (first | refine mj_r_pure rfl rfl ?_ | refine rr_get rfl rfl rfl ?_)
      exact mj_r_iret rfl rfl rfl ⟨by rw [sp_at, if_neg (ge_nlt c2)], rfl, rfl⟩
    · repeat (first | refine mj_r_pure rfl rfl ?_ | refine rr_get rfl rfl rfl ?_)
      exact mj_r_iret rfl rfl rfl ⟨by rw [sp_at, if_pos ⟨nlt0_le c1, nge_lt c2⟩, ← pk_mul]; rfl, rfl, rfl⟩
/-- tell -/
def sp_tell (S : rf_S) (d : Nat) (dg : Int64) : Int32 × rf_S :=
  if S.1 24 d = 0 ∧ S.1 30 d = 0 then ((S.1 25 d + S.1 26 d) / 2, sA (sA (sL S 29 d dg) 30 d 1) 33 d (S.1 33 d + 1)) else (-1, S)
set_option maxRecDepth 20000 in
set_option maxHeartbeats 4000000 in
theorem K_Ref_tell (S : rf_S) (d : Int32) (dg : Int64) (nx nd : Nat) (hnd : S.1 21 0 = nI nd) (h80 : nd ≤ 80) : rK me_Ref_tell [.int d, .long dg] S nx (some (.int (if isN d (nI nd) then (sp_tell S d.toNatClampNeg dg).1 else -1))) (if isN d (nI nd) then (sp_tell S d.toNatClampNeg dg).2 else S) := by
  refine mj_K.of ok_Ref_tell ck_Ref_tell (Nat.le_of_ble_eq_true rfl) ?_
  repeat (first | refine mj_r_pure rfl rfl ?_ | refine rr_get rfl rfl rfl ?_)
  refine mj_r_callV (ci := 10) (kc := 0) (ks := 0) rfl li_Ref_181 ck_Ref_isDispute iv_Ref_isDispute (by decide) rfl rfl (K_Ref_isDispute S d nx) rfl rfl (by decide) ?_
  rintro _ _ _ ⟨rfl, rfl, rfl⟩ _
  rw [hnd]
  refine mj_r_if_eq rfl (fun c1 => ?_) (fun c1 => ?_)
  · repeat (first | refine mj_r_pure rfl rfl ?_ | refine rr_get rfl rfl rfl ?_)
    have c1 := bI_0.mp c1
    exact mj_r_iret rfl rfl rfl ⟨by rw [if_neg c1], by rw [if_neg c1], rfl⟩
  · have c1 : isN d (nI nd) := Decidable.of_not_not (fun q => c1 (bI_f q))
    obtain ⟨j, hj, rfl⟩ : ∃ j : Nat, j < nd ∧ d = nI j := by
      rcases pk_ix d (n := nd) (by omega) with q | q | q
      · exact absurd c1 (lt0_nle q _)
      · exact absurd c1 (ge_nlt q)
      · exact q
    rw [if_pos c1, if_pos c1, nI_clamp (by omega)]
    repeat (first | refine mj_r_pure rfl rfl ?_ | refine rr_get rfl rfl rfl ?_)
    refine rx_iald rfl rfl (by first | rfl | assumption) (by omega) ?_
    repeat (first | refine mj_r_pure rfl rfl ?_ | refine rr_get rfl rfl rfl ?_)
    refine mj_r_if_ne rfl (fun c2 => ?_) (fun c2 => ?_)
    · repeat (first | refine mj_r_pure rfl rfl ?_ | refine rr_get rfl rfl rfl ?_)
      exact mj_r_iret rfl rfl rfl ⟨by rw [sp_tell, if_neg (fun q => c2 q.1)], by rw [sp_tell, if_neg (fun q => c2 q.1)], rfl⟩
    · repeat (first | refine mj_r_pure rfl rfl ?_ | refine rr_get rfl rfl rfl ?_)
      refine rx_iald rfl rfl (by first | rfl | assumption) (by omega) ?_
      refine mj_r_if_eq rfl (fun c3 => ?_) (fun c3 => ?_)
      · rw [sp_tell, if_pos ⟨c2, c3⟩]
        repeat (first | refine mj_r_pure rfl rfl ?_ | refine rr_get rfl rfl rfl ?_)
        refine rx_last rfl rfl (by first | rfl | assumption) (by omega) ?_
        repeat (first | refine mj_r_pure rfl rfl ?_ | refine rr_get rfl rfl rfl ?_)
        refine rx_iast rfl rfl (by first | rfl | assumption) (by omega) ?_
        repeat (first | refine mj_r_pure rfl rfl ?_ | refine rr_get rfl rfl rfl ?_)
        refine rx_iald rfl rfl (by first | rfl | assumption) (by omega) ?_
        repeat (first | refine mj_r_pure rfl rfl ?_ | refine rr_get rfl rfl rfl ?_)
        refine rx_iast rfl rfl (by first | rfl | assumption) (by omega) ?_
        repeat (first | refine mj_r_pure rfl rfl ?_ | refine rr_get rfl rfl rfl ?_)
        refine rx_iald rfl rfl (by first | rfl | assumption) (by omega) ?_
        repeat (first | refine mj_r_pure rfl rfl ?_ | refine rr_get rfl rfl rfl ?_)
        refine rx_iald rfl rfl (by first | rfl | assumption) (by omega) ?_
        repeat (first | refine mj_r_pure rfl rfl ?_ | refine rr_get rfl rfl rfl ?_)
        exact mj_r_iret rfl rfl rfl ⟨rfl, rfl, rfl⟩
      · repeat (first | refine mj_r_pure rfl rfl ?_ | refine rr_get rfl rfl rfl ?_)
        exact mj_r_iret rfl rfl rfl ⟨by rw [sp_tell, if_neg (fun q => c3 q.2)], by rw [sp_tell, if_neg (fun q => c3 q.2)], rfl⟩
