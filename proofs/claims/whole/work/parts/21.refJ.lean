/-! the reference: the paper -/
def fnd (p : Nat → Bool) : Nat → Nat → Option Nat
  | 0, _ => none
  | n + 1, i => if p i then some i else fnd p n (i + 1)
theorem fnd_some {p : Nat → Bool} : ∀ {n i j : Nat}, fnd p n i = some j → i ≤ j ∧ j < i + n ∧ p j = true := by
  intro n
  induction n with
  | zero => intro i j h; cases h
  | succ n ih =>
    intro i j h
    unfold fnd at h
    split at h
    · cases h; exact ⟨Nat.le_refl _, by omega, by assumption⟩
    · obtain ⟨h1, h2, h3⟩ := ih h
      exact ⟨by omega, by omega, h3⟩
def sp_on (S : rf_S) (k : Int32) (n : Nat) : Option Nat := fnd (fun i => decide (S.1 37 i = k)) n 0
def oI : Option Nat → Int32
  | some i => nI i
  | none => -1
theorem sp_on_lt {S : rf_S} {k : Int32} {n j : Nat} (h : sp_on S k n = some j) : j < n := by
  have := (fnd_some h).2.1
  omega
set_option maxRecDepth 20000 in
set_option maxHeartbeats 4000000 in
theorem K_Ref_onPaper (S : rf_S) (k : Int32) (nx n : Nat) (hn : S.1 36 0 = nI n) (h4 : n ≤ 4) : rK me_Ref_onPaper [.int k] S nx (some (.int (oI (sp_on S k n)))) S := by
  refine mj_K.of ok_Ref_onPaper ck_Ref_onPaper (Nat.le_of_ble_eq_true rfl) ?_
  have go : ∀ (d i : Nat), i + d = n → mj_W me_Ref_onPaper 2 [(0, .ref 21), (1, .int k), (2, .int (nI i))] [] (rf_h S) mj_0 nx 0 0 (fun _ => True, fun r h' _ nx' => r = some (.int (oI (fnd (fun i => decide (S.1 37 i = k)) d i))) ∧ h' = rf_h S ∧ nx = nx') := by
    intro d
    induction d with
    | zero =>
      intro i hi
      have e : i = n := by omega
      subst e
      iterate 2 (refine mj_r_pure rfl rfl ?_)
      refine rr_get rfl rfl rfl ?_
      refine mj_r_icmp_ge rfl (fun c1 => ?_) (fun c1 => absurd c1 (fun q => q (by rw [hn]; exact nI_le (Nat.le_refl _) (by omega))))
      refine mj_r_pure rfl rfl ?_
      exact mj_r_iret rfl rfl rfl ⟨rfl, rfl, rfl⟩
    | succ d ih =>
      intro i hi
      have e := ih (i + 1) (by omega)
      unfold fnd
      iterate 2 (refine mj_r_pure rfl rfl ?_)
      refine rr_get rfl rfl rfl ?_
      refine mj_r_icmp_ge rfl (fun c1 => absurd c1 (by rw [hn]; exact nI_ge (by omega) (by omega))) (fun c1 => ?_)
      refine mj_r_pure rfl rfl ?_
      refine rr_get rfl rfl rfl ?_
      refine mj_r_pure rfl rfl ?_
      refine rx_iald rfl rfl (by first | rfl | assumption) (by omega) ?_
      refine mj_r_pure rfl rfl ?_
      refine mj_r_icmp_ne rfl (fun c2 => ?_) (fun c2 => ?_)
      · iterate 2 (refine mj_r_pure rfl rfl ?_)
        rw [nI_1]; rw [if_neg (by simp [c2])]; exact e
      · refine mj_r_pure rfl rfl ?_
        exact mj_r_iret rfl rfl rfl ⟨by rw [if_pos (by simp [c2])]; rfl, rfl, rfl⟩
  iterate 2 (refine mj_r_pure rfl rfl ?_)
  exact go n 0 (by omega)
theorem oI_cases (S : rf_S) (k : Int32) {n : Nat} (h4 : n ≤ 4) : (sp_on S k n = none ∧ oI (sp_on S k n) = -1) ∨ ∃ j, j < n ∧ sp_on S k n = some j ∧ oI (sp_on S k n) = nI j := by
  cases h : sp_on S k n with
  | none => exact Or.inl ⟨rfl, rfl⟩
  | some j => exact Or.inr ⟨j, sp_on_lt h, rfl, rfl⟩
def sp_cell1 (S : rf_S) (c : Nat) (k v : Int32) (w1 w2 w3 w4 : Int64) : rf_S :=
  sI (sL (sL (sL (sL (sA (sA S 37 c k) 38 c v) 39 (4 * c) w1) 39 (4 * c + 1) w2) 39 (4 * c + 2) w3) 39 (4 * c + 3) w4) 36 (S.1 36 0 + 1)
def sp_cell (S : rf_S) (k v : Int32) (w1 w2 w3 w4 : Int64) (n : Nat) : Int32 × rf_S :=
  if isN k 16 ∧ sp_on S k n = none ∧ ¬ S.1 36 0 = 4 then (S.1 36 0 + 1, sp_cell1 S n k v w1 w2 w3 w4) else (-1, S)
set_option maxRecDepth 20000 in
set_option maxHeartbeats 4000000 in
theorem K_Ref_cell (S : rf_S) (k v : Int32) (w1 w2 w3 w4 : Int64) (nx n : Nat) (hn : S.1 36 0 = nI n) (h4 : n ≤ 4) : rKi me_Ref_cell [.int k, .int v, .long w1, .long w2, .long w3, .long w4] S nx (sp_cell S k v w1 w2 w3 w4 n) := by
  refine mj_K.of ok_Ref_cell ck_Ref_cell (Nat.le_of_ble_eq_true rfl) ?_
  rcases oI_cases S k h4 with ⟨o1, o2⟩ | ⟨j, hj, o1, o2⟩
  · refine mj_r_pure rfl rfl ?_
    refine mj_r_if_lt rfl (fun c1 => ?_) (fun c1 => ?_)
    · refine mj_r_pure rfl rfl ?_
      exact mj_r_iret rfl rfl rfl (rq (by refine if_neg (fun q => ?_); exact absurd q.1 (lt0_nle c1 _)))
    · iterate 2 (refine mj_r_pure rfl rfl ?_)
      refine mj_r_icmp_ge rfl (fun c2 => ?_) (fun c2 => ?_)
      · refine mj_r_pure rfl rfl ?_
        exact mj_r_iret rfl rfl rfl (rq (by refine if_neg (fun q => ?_); exact absurd q.1 (ge_nlt c2)))
      · iterate 2 (refine mj_r_pure rfl rfl ?_)
        refine mj_r_callV (ci := 10) (kc := 0) (ks := 0) rfl li_Ref_194 ck_Ref_onPaper iv_Ref_onPaper (by decide) rfl rfl (K_Ref_onPaper S k nx n hn h4) rfl rfl (Nat.le_of_ble_eq_true rfl) ?_
        rintro _ _ _ ⟨rfl, rfl, rfl⟩ _
        rw [o2]
        refine mj_r_if_ge rfl (fun c3 => absurd c3 (m1_neg)) (fun c3 => ?_)
        refine mj_r_pure rfl rfl ?_
        refine rr_get rfl rfl rfl ?_
        refine mj_r_pure rfl rfl ?_
        refine mj_r_icmp_ne rfl (fun c4 => ?_) (fun c4 => ?_)
        · have hlt : n < 4 := by
            rcases Nat.lt_or_ge n 4 with q | q
            · exact q
            · exact absurd (hn.trans (by rw [show n = 4 by omega]; rfl)) c4
          refine mj_r_pure rfl rfl ?_
          refine rr_get rfl rfl rfl ?_
          refine mj_r_pure rfl rfl ?_
          refine rr_get rfl rfl rfl ?_
          refine mj_r_pure rfl rfl ?_
          refine rx_iast rfl rfl hn (by omega) ?_
          refine mj_r_pure rfl rfl ?_
          refine rr_get rfl rfl rfl ?_
          refine mj_r_pure rfl rfl ?_
          refine rr_get rfl rfl rfl ?_
          refine mj_r_pure rfl rfl ?_
          refine rx_iast rfl rfl hn (by omega) ?_
          refine mj_r_pure rfl rfl ?_
          refine rr_get rfl rfl rfl ?_
          iterate 2 (refine mj_r_pure rfl rfl ?_)
          refine rr_get rfl rfl rfl ?_
          iterate 2 (refine mj_r_pure rfl rfl ?_)
          refine rx_last rfl rfl (ix_mul (x := 4) rfl hn) (by omega) ?_
          refine mj_r_pure rfl rfl ?_
          refine rr_get rfl rfl rfl ?_
          iterate 2 (refine mj_r_pure rfl rfl ?_)
          refine rr_get rfl rfl rfl ?_
          iterate 4 (refine mj_r_pure rfl rfl ?_)
          refine rx_last rfl rfl (ix_add (y := 1) (ix_mul (x := 4) rfl hn) rfl) (by omega) ?_
          refine mj_r_pure rfl rfl ?_
          refine rr_get rfl rfl rfl ?_
          iterate 2 (refine mj_r_pure rfl rfl ?_)
          refine rr_get rfl rfl rfl ?_
          iterate 4 (refine mj_r_pure rfl rfl ?_)
          refine rx_last rfl rfl (ix_add (y := 2) (ix_mul (x := 4) rfl hn) rfl) (by omega) ?_
          refine mj_r_pure rfl rfl ?_
          refine rr_get rfl rfl rfl ?_
          iterate 2 (refine mj_r_pure rfl rfl ?_)
          refine rr_get rfl rfl rfl ?_
          iterate 4 (refine mj_r_pure rfl rfl ?_)
          refine rx_last rfl rfl (ix_add (y := 3) (ix_mul (x := 4) rfl hn) rfl) (by omega) ?_
          iterate 2 (refine mj_r_pure rfl rfl ?_)
          refine rr_get rfl rfl rfl ?_
          iterate 2 (refine mj_r_pure rfl rfl ?_)
          refine rr_putI rfl rfl (by decide) ?_
          refine mj_r_pure rfl rfl ?_
          refine rr_get rfl rfl rfl ?_
          exact mj_r_iret rfl rfl rfl (rq (by rw [sp_cell, if_pos ⟨⟨nlt0_le c1, nge_lt c2⟩, o1, c4⟩]; rfl))
        · refine mj_r_pure rfl rfl ?_
          exact mj_r_iret rfl rfl rfl (rq (by refine if_neg (fun q => ?_); exact q.2.2 c4))
  · refine mj_r_pure rfl rfl ?_
    refine mj_r_if_lt rfl (fun c1 => ?_) (fun c1 => ?_)
    · refine mj_r_pure rfl rfl ?_
      exact mj_r_iret rfl rfl rfl (rq (by refine if_neg (fun q => ?_); exact absurd q.1 (lt0_nle c1 _)))
    · iterate 2 (refine mj_r_pure rfl rfl ?_)
      refine mj_r_icmp_ge rfl (fun c2 => ?_) (fun c2 => ?_)
      · refine mj_r_pure rfl rfl ?_
        exact mj_r_iret rfl rfl rfl (rq (by refine if_neg (fun q => ?_); exact absurd q.1 (ge_nlt c2)))
      · iterate 2 (refine mj_r_pure rfl rfl ?_)
        refine mj_r_callV (ci := 10) (kc := 0) (ks := 0) rfl li_Ref_194 ck_Ref_onPaper iv_Ref_onPaper (by decide) rfl rfl (K_Ref_onPaper S k nx n hn h4) rfl rfl (Nat.le_of_ble_eq_true rfl) ?_
        rintro _ _ _ ⟨rfl, rfl, rfl⟩ _
        rw [o2]
        refine mj_r_if_ge rfl (fun c3 => ?_) (fun c3 => absurd c3 (fun q => q (nI_pos' (by omega))))
        refine mj_r_pure rfl rfl ?_
        exact mj_r_iret rfl rfl rfl (rq (by refine if_neg (fun q => ?_); exact absurd q.2.1 (by rw [o1]; exact fun z => by cases z)))
/-- the way up, k NODES up -/
def up_v (num : Nat) (v : Int32) (w : Nat → Int64) : Nat → Int64
  | 0 => sp_mix (lN num) v.toInt64
  | k + 1 => if (16 + num) / 2 ^ k % 2 = 0 then sp_mix (up_v num v w k) (w k) else sp_mix (w k) (up_v num v w k)
def sp_up (S : rf_S) (i : Nat) (v : Int32) : Int64 := up_v (S.1 37 i).toNatClampNeg v (fun j => S.2 39 (4 * i + j)) 4
set_option maxRecDepth 20000 in
set_option maxHeartbeats 4000000 in
theorem rl_up {Q : mj_post} {g : mj_H} {nx i num : Nat} {v : Int32} {S : rf_S} (hi : i < 4) (hnum : num < 16) (k : ∀ z : Int32, mj_W me_Ref_upFrom 81 [(0, .ref 21), (1, .int (nI i)), (2, .int v), (3, .int z), (4, .long (up_v num v (fun j => S.2 39 (4 * i + j)) 4))] [] (rf_h S) g nx 0 0 Q) : ∀ (d j : Nat) (lv : List (Nat × Value)), j + d = 4 → mj_pk lv [0, 1, 2, 3, 4, 6] = some [(0, .ref 21), (1, .int (nI i)), (2, .int v), (3, .int (nI ((16 + num) / 2 ^ j))), (4, .long (up_v num v (fun j => S.2 39 (4 * i + j)) j)), (6, .int (nI j))] → mj_W me_Ref_upFrom 27 lv [] (rf_h S) g nx 0 0 Q := by
  intro d
  induction d with
  | zero =>
    intro j lv hj hlv
    have e : j = 4 := by omega
    subst e
    refine mj_W.fewer _ hlv ?_
    iterate 2 (refine mj_r_pure rfl rfl ?_)
    refine mj_r_icmp_ge rfl (fun c1 => ?_) (fun c1 => absurd c1 (fun q => q (nI_le (a := 4) (b := 4) (Nat.le_refl _) (by omega))))
    exact mj_W.fewer [0, 1, 2, 3, 4] rfl (k _)
  | succ d ih =>
    intro j lv hj hlv
    refine mj_W.fewer _ hlv ?_
    have hb : (16 + num) / 2 ^ j < 2 ^ 31 := Nat.lt_of_le_of_lt (Nat.div_le_self _ _) (by omega)
    generalize hx : (16 + num) / 2 ^ j = xx at hb ⊢
    have e1 : nI xx - nI xx / 2 * 2 = nI (xx % 2) := pk_rem (d := 2) hb (by omega) (by omega)
    have e2 : nI xx / 2 = nI (xx / 2) := pk_div (d := 2) hb (by omega) (by omega)
    have e3 : (16 + num) / 2 ^ (j + 1) = xx / 2 := by rw [Nat.pow_succ, ← Nat.div_div_eq_div_mul, hx]
    have e4 : ∀ z, (if xx % 2 = 0 then sp_mix (up_v num v (fun j => S.2 39 (4 * i + j)) j) (S.2 39 (4 * i + j)) else sp_mix (S.2 39 (4 * i + j)) (up_v num v (fun j => S.2 39 (4 * i + j)) j)) = z → up_v num v (fun j => S.2 39 (4 * i + j)) (j + 1) = z := fun z hz => by rw [← hz, ← hx]; rfl
    iterate 2 (refine mj_r_pure rfl rfl ?_)
    refine mj_r_icmp_ge rfl (fun c1 => absurd c1 (nI_ge (a := j) (b := 4) (by omega) (by omega))) (fun c1 => ?_)
    refine mj_r_pure rfl rfl ?_
    refine rr_get rfl rfl rfl ?_
    iterate 5 (refine mj_r_pure rfl rfl ?_)
    refine rx_lald rfl rfl (ix_add (ix_mul (x := 4) rfl rfl) rfl) (by omega) ?_
    iterate 4 (refine mj_r_pure rfl rfl ?_)
    rw [e1]
    refine mj_r_if_ne rfl (fun c2 => ?_) (fun c2 => ?_)
    · iterate 2 (refine mj_r_pure rfl rfl ?_)
      refine mj_r_callS (kc := 0) (ks := 0) rfl li_Ref_144 ck_Ref_mix iv_Ref_mix (by decide) rfl (K_Ref_mix _ _ _ nx) rfl rfl (Nat.le_of_ble_eq_true rfl) ?_
      rintro _ _ _ ⟨rfl, rfl, rfl⟩ _
      iterate 7 (refine mj_r_pure rfl rfl ?_)
      exact ih (j + 1) _ (by omega) (by rw [e3, e4 _ (if_neg (fun z => c2 (by rw [z]; rfl))), ← e2, ← nI_1]; rfl)
    · iterate 2 (refine mj_r_pure rfl rfl ?_)
      refine mj_r_callS (kc := 0) (ks := 0) rfl li_Ref_144 ck_Ref_mix iv_Ref_mix (by decide) rfl (K_Ref_mix _ _ _ nx) rfl rfl (Nat.le_of_ble_eq_true rfl) ?_
      rintro _ _ _ ⟨rfl, rfl, rfl⟩ _
      iterate 8 (refine mj_r_pure rfl rfl ?_)
      exact ih (j + 1) _ (by omega) (by rw [e3, e4 _ (if_pos ((nI_eq (a := xx % 2) (b := 0) (by omega) (by omega)).mp c2)), ← e2, ← nI_1]; rfl)
set_option maxRecDepth 20000 in
set_option maxHeartbeats 4000000 in
theorem K_Ref_upFrom (S : rf_S) (i : Nat) (v : Int32) (nx num : Nat) (hi : i < 4) (hnum : S.1 37 i = nI num) (h16 : num < 16) : rK me_Ref_upFrom [.int (nI i), .int v] S nx (some (.long (sp_up S i v))) S := by
  refine mj_K.of ok_Ref_upFrom ck_Ref_upFrom (Nat.le_of_ble_eq_true rfl) ?_
  have e0 : sp_up S i v = up_v num v (fun j => S.2 39 (4 * i + j)) 4 := by rw [sp_up, hnum, nI_clamp (by omega)]
  rw [e0]
  iterate 2 (refine mj_r_pure rfl rfl ?_)
  refine rr_get rfl rfl rfl ?_
  refine mj_r_pure rfl rfl ?_
  refine rx_iald rfl rfl (by first | rfl | assumption) (by omega) ?_
  iterate 3 (refine mj_r_pure rfl rfl ?_)
  refine rr_get rfl rfl rfl ?_
  refine mj_r_pure rfl rfl ?_
  refine rx_iald rfl rfl (by first | rfl | assumption) (by omega) ?_
  iterate 3 (refine mj_r_pure rfl rfl ?_)
  refine mj_r_callS (kc := 0) (ks := 0) rfl li_Ref_144 ck_Ref_mix iv_Ref_mix (by decide) rfl (K_Ref_mix _ _ _ nx) rfl rfl (Nat.le_of_ble_eq_true rfl) ?_
  rintro _ _ _ ⟨rfl, rfl, rfl⟩ _
  iterate 3 (refine mj_r_pure rfl rfl ?_)
  refine rl_up hi h16 (fun z => ?_) 4 0 _ rfl (by rw [show (16 + num) / 2 ^ 0 = 16 + num by omega, ← nI_add, show up_v num v (fun j => S.2 39 (4 * i + j)) 0 = sp_mix (nI num).toInt64 v.toInt64 by rw [nI_l (by omega)]; rfl, ← hnum]; rfl)
  refine mj_r_pure rfl rfl ?_
  exact mj_r_lret rfl rfl ⟨rfl, rfl, rfl⟩
def tw (op : Int32) : Prop := ¬ op = 0 ∧ ¬ op = 5 ∧ ¬ op = 9
def pv (S : rf_S) (n : Nat) (x : Int32) : Int32 := S.1 38 ((sp_on S x n).getD 0)
/-- what the instruction asks for is on the paper -/
def sp_has (S : rf_S) (k n : Nat) : Prop := (∃ j, sp_on S (S.1 1 k) n = some j) ∧ (tw (S.1 0 k) → ∃ j, sp_on S (S.1 2 k) n = some j) ∧ (S.1 0 k = 7 → ∃ j, sp_on S (pv S n (S.1 2 k) &&& 15) n = some j) ∧ (S.1 0 k = 8 → ∃ j, sp_on S (pv S n (S.1 1 k) &&& 15) n = some j)
def sp_hasC (S : rf_S) (k n : Nat) (f : Nat → Int32) : Prop := f (S.1 1 k).toNatClampNeg = pv S n (S.1 1 k) ∧ (tw (S.1 0 k) → f (S.1 2 k).toNatClampNeg = pv S n (S.1 2 k)) ∧ (S.1 0 k = 7 → f (pv S n (S.1 2 k) &&& 15).toNatClampNeg = pv S n (pv S n (S.1 2 k) &&& 15)) ∧ (S.1 0 k = 8 → f (pv S n (S.1 1 k) &&& 15).toNatClampNeg = pv S n (pv S n (S.1 1 k) &&& 15))
theorem pv_some {S : rf_S} {n j : Nat} {x : Int32} (h : sp_on S x n = some j) : pv S n x = S.1 38 j := by rw [pv, h]; rfl
theorem sp_on_C (S : rf_S) (f : Nat → Int32) (x : Int32) (n : Nat) : sp_on (sC S 9 f) x n = sp_on S x n := rfl
set_option maxRecDepth 20000 in
set_option maxHeartbeats 4000000 in
theorem rl_has0 {Q : mj_post} {nx n a b ka j : Nat} {S : rf_S} {op : Int32} (h4 : n ≤ 4) (hn : S.1 36 0 = nI n) (ha : a < 16) (hj : j < n) (o1 : sp_on S (nI a) n = some j) (o7 : ¬ op = 7) (o8 : ¬ op = 8) (hQ : Q.2 (some (.int 1)) (rf_h (sC S 9 (upd (S.1 9) a (S.1 38 j)))) mj_0 nx) (hr : True) : mj_W me_Ref_hasCells 44 [(0, .ref 21), (1, .int (nI ka)), (2, .int op), (3, .int (nI a)), (4, .int (nI b)), (5, .int 0)] [] (rf_h S) mj_0 nx 0 0 Q := by
  have o2 : oI (sp_on S (nI a) n) = nI j := by rw [o1]; rfl
  iterate 2 (refine mj_r_pure rfl rfl ?_)
  refine mj_r_callV (ci := 10) (kc := 0) (ks := 0) rfl li_Ref_194 ck_Ref_onPaper iv_Ref_onPaper (by decide) rfl rfl (K_Ref_onPaper S _ nx n hn h4) rfl rfl (Nat.le_of_ble_eq_true rfl) ?_
  rintro _ _ _ ⟨rfl, rfl, rfl⟩ _
  rw [o2]
  refine mj_r_if_lt rfl (fun c1 => absurd c1 (nI_pos (by omega))) (fun c1 => ?_)
  refine mj_r_pure rfl rfl ?_
  refine mj_r_if_eq rfl (fun c2 => ?_) (fun c2 => absurd c2 (fun q => q rfl))
  refine mj_r_pure rfl rfl ?_
  refine rr_get rfl rfl rfl ?_
  iterate 2 (refine mj_r_pure rfl rfl ?_)
  refine rr_get rfl rfl rfl ?_
  iterate 2 (refine mj_r_pure rfl rfl ?_)
  refine mj_r_callV (ci := 10) (kc := 0) (ks := 0) rfl li_Ref_194 ck_Ref_onPaper iv_Ref_onPaper (by decide) rfl rfl (K_Ref_onPaper S _ nx n hn h4) rfl rfl (Nat.le_of_ble_eq_true rfl) ?_
  rintro _ _ _ ⟨rfl, rfl, rfl⟩ _
  rw [o2]
  refine rx_iald rfl rfl (by first | rfl | assumption) (by omega) ?_
  refine rx_iast rfl rfl (by first | rfl | assumption) (by omega) ?_
  refine mj_r_pure rfl rfl ?_
  refine mj_r_if_eq rfl (fun c3 => ?_) (fun c3 => absurd c3 (fun q => q rfl))
  iterate 2 (refine mj_r_pure rfl rfl ?_)
  refine mj_r_icmp_eq rfl (fun c4 => absurd c4 (o7)) (fun c4 => ?_)
  iterate 2 (refine mj_r_pure rfl rfl ?_)
  refine mj_r_icmp_ne rfl (fun c5 => ?_) (fun c5 => absurd c5 (o8))
  refine mj_r_pure rfl rfl ?_
  exact mj_r_iret rfl rfl rfl (hQ)
set_option maxRecDepth 20000 in
set_option maxHeartbeats 4000000 in
theorem rl_has1 {Q : mj_post} {nx n a b ka ja jb : Nat} {S : rf_S} {op : Int32} (h4 : n ≤ 4) (hn : S.1 36 0 = nI n) (ha : a < 16) (hb : b < 16) (hja : ja < n) (hjb : jb < n) (oa : sp_on S (nI a) n = some ja) (ob : sp_on S (nI b) n = some jb) (k : mj_W me_Ref_hasCells 107 [(0, .ref 21), (1, .int (nI ka)), (2, .int op), (3, .int (nI a)), (4, .int (nI b)), (5, .int 1)] [] (rf_h (sC S 9 (upd (upd (S.1 9) a (S.1 38 ja)) b (S.1 38 jb)))) mj_0 nx 0 0 Q) : mj_W me_Ref_hasCells 44 [(0, .ref 21), (1, .int (nI ka)), (2, .int op), (3, .int (nI a)), (4, .int (nI b)), (5, .int 1)] [] (rf_h S) mj_0 nx 0 0 Q := by
  have oa2 : oI (sp_on S (nI a) n) = nI ja := by rw [oa]; rfl
  have ob2 : oI (sp_on S (nI b) n) = nI jb := by rw [ob]; rfl
  iterate 2 (refine mj_r_pure rfl rfl ?_)
  refine mj_r_callV (ci := 10) (kc := 0) (ks := 0) rfl li_Ref_194 ck_Ref_onPaper iv_Ref_onPaper (by decide) rfl rfl (K_Ref_onPaper S _ nx n hn h4) rfl rfl (Nat.le_of_ble_eq_true rfl) ?_
  rintro _ _ _ ⟨rfl, rfl, rfl⟩ _
  rw [oa2]
  refine mj_r_if_lt rfl (fun c1 => absurd c1 (nI_pos (by omega))) (fun c1 => ?_)
  refine mj_r_pure rfl rfl ?_
  refine mj_r_if_eq rfl (fun c2 => absurd c2 (by decide)) (fun c2 => ?_)
  iterate 2 (refine mj_r_pure rfl rfl ?_)
  refine mj_r_callV (ci := 10) (kc := 0) (ks := 0) rfl li_Ref_194 ck_Ref_onPaper iv_Ref_onPaper (by decide) rfl rfl (K_Ref_onPaper S _ nx n hn h4) rfl rfl (Nat.le_of_ble_eq_true rfl) ?_
  rintro _ _ _ ⟨rfl, rfl, rfl⟩ _
  rw [ob2]
  refine mj_r_if_ge rfl (fun c3 => ?_) (fun c3 => absurd c3 (fun q => q (nI_pos' (by omega))))
  refine mj_r_pure rfl rfl ?_
  refine rr_get rfl rfl rfl ?_
  iterate 2 (refine mj_r_pure rfl rfl ?_)
  refine rr_get rfl rfl rfl ?_
  iterate 2 (refine mj_r_pure rfl rfl ?_)
  refine mj_r_callV (ci := 10) (kc := 0) (ks := 0) rfl li_Ref_194 ck_Ref_onPaper iv_Ref_onPaper (by decide) rfl rfl (K_Ref_onPaper S _ nx n hn h4) rfl rfl (Nat.le_of_ble_eq_true rfl) ?_
  rintro _ _ _ ⟨rfl, rfl, rfl⟩ _
  rw [oa2]
  refine rx_iald rfl rfl (by first | rfl | assumption) (by omega) ?_
  refine rx_iast rfl rfl (by first | rfl | assumption) (by omega) ?_
  refine mj_r_pure rfl rfl ?_
  refine mj_r_if_eq rfl (fun c4 => absurd c4 (by decide)) (fun c4 => ?_)
  rw [sA_sC]
  refine mj_r_pure rfl rfl ?_
  refine rr_get rfl rfl rfl ?_
  iterate 2 (refine mj_r_pure rfl rfl ?_)
  refine rr_get rfl rfl rfl ?_
  iterate 2 (refine mj_r_pure rfl rfl ?_)
  refine mj_r_callV (ci := 10) (kc := 0) (ks := 0) rfl li_Ref_194 ck_Ref_onPaper iv_Ref_onPaper (by decide) rfl rfl (K_Ref_onPaper (sC S 9 (upd (S.1 9) a (S.1 38 ja))) _ nx n hn h4) rfl rfl (Nat.le_of_ble_eq_true rfl) ?_
  rintro _ _ _ ⟨rfl, rfl, rfl⟩ _
  rw [sp_on_C, ob2]
  refine rx_iald rfl rfl (by first | rfl | assumption) (by omega) ?_
  refine rx_iast rfl rfl (by first | rfl | assumption) (by omega) ?_
  rw [sC_9]; exact k
theorem ug {f g : Nat → Int32} {i j : Nat} (h : f j = g j) : upd f i (g i) j = g j := by
  by_cases e : j = i
  · subst e; exact pk_us
  · rw [pk_un e]; exact h
theorem ug0 {f g : Nat → Int32} {i : Nat} : upd f i (g i) i = g i := pk_us
set_option maxRecDepth 20000 in
set_option maxHeartbeats 4000000 in
theorem rl_has2 {Q : mj_post} {nx n a b ka t jx : Nat} {S : rf_S} {op : Int32} {f : Nat → Int32} (h4 : n ≤ 4) (hn : S.1 36 0 = nI n) (ha : a < 16) (hb : b < 16) (ht : t < 16) (hjx : jx < n) (hop : op = 7 ∧ f b &&& 15 = nI t ∨ op = 8 ∧ f a &&& 15 = nI t) (ox : sp_on S (nI t) n = some jx) (hQ : Q.2 (some (.int 1)) (rf_h (sC S 9 (upd f t (S.1 38 jx)))) mj_0 nx) : mj_W me_Ref_hasCells 107 [(0, .ref 21), (1, .int (nI ka)), (2, .int op), (3, .int (nI a)), (4, .int (nI b)), (5, .int 1)] [] (rf_h (sC S 9 f)) mj_0 nx 0 0 Q := by
  have ox2 : oI (sp_on S (nI t) n) = nI jx := by rw [ox]; rfl
  rcases hop with ⟨rfl, e⟩ | ⟨rfl, e⟩
  · iterate 2 (refine mj_r_pure rfl rfl ?_)
    refine mj_r_icmp_eq rfl (fun c1 => ?_) (fun c1 => absurd c1 (fun q => q rfl))
    refine mj_r_pure rfl rfl ?_
    refine rr_get rfl rfl rfl ?_
    iterate 2 (refine mj_r_pure rfl rfl ?_)
    refine mj_r_icmp_ne rfl (fun c2 => absurd c2 (fun q => q rfl)) (fun c2 => ?_)
    iterate 2 (refine mj_r_pure rfl rfl ?_)
    refine rx_iald rfl rfl (by first | rfl | assumption) (by omega) ?_
    iterate 2 (refine mj_r_pure rfl rfl ?_)
    change mj_W _ _ _ [.int (f b &&& 15)] _ _ _ _ _ _
    rw [e]
    iterate 3 (refine mj_r_pure rfl rfl ?_)
    refine mj_r_callV (ci := 10) (kc := 0) (ks := 0) rfl li_Ref_194 ck_Ref_onPaper iv_Ref_onPaper (by decide) rfl rfl (K_Ref_onPaper (sC S 9 f) _ nx n hn h4) rfl rfl (Nat.le_of_ble_eq_true rfl) ?_
    rintro _ _ _ ⟨rfl, rfl, rfl⟩ _
    rw [sp_on_C, ox2]
    refine mj_r_if_ge rfl (fun c3 => ?_) (fun c3 => absurd c3 (fun q => q (nI_pos' (by omega))))
    refine mj_r_pure rfl rfl ?_
    refine rr_get rfl rfl rfl ?_
    iterate 2 (refine mj_r_pure rfl rfl ?_)
    refine rr_get rfl rfl rfl ?_
    iterate 2 (refine mj_r_pure rfl rfl ?_)
    refine mj_r_callV (ci := 10) (kc := 0) (ks := 0) rfl li_Ref_194 ck_Ref_onPaper iv_Ref_onPaper (by decide) rfl rfl (K_Ref_onPaper (sC S 9 f) _ nx n hn h4) rfl rfl (Nat.le_of_ble_eq_true rfl) ?_
    rintro _ _ _ ⟨rfl, rfl, rfl⟩ _
    rw [sp_on_C, ox2]
    refine rx_iald rfl rfl (by first | rfl | assumption) (by omega) ?_
    refine rx_iast rfl rfl (by first | rfl | assumption) (by omega) ?_
    rw [sC_9]
    refine mj_r_pure rfl rfl ?_
    exact mj_r_iret rfl rfl rfl (hQ)
  · iterate 2 (refine mj_r_pure rfl rfl ?_)
    refine mj_r_icmp_eq rfl (fun c1 => absurd c1 (by decide)) (fun c1 => ?_)
    iterate 2 (refine mj_r_pure rfl rfl ?_)
    refine mj_r_icmp_ne rfl (fun c2 => absurd c2 (fun q => q rfl)) (fun c2 => ?_)
    refine mj_r_pure rfl rfl ?_
    refine rr_get rfl rfl rfl ?_
    iterate 2 (refine mj_r_pure rfl rfl ?_)
    refine mj_r_icmp_ne rfl (fun c3 => ?_) (fun c3 => absurd c3 (by decide))
    refine mj_r_pure rfl rfl ?_
    refine rx_iald rfl rfl (by first | rfl | assumption) (by omega) ?_
    iterate 2 (refine mj_r_pure rfl rfl ?_)
    change mj_W _ _ _ [.int (f a &&& 15)] _ _ _ _ _ _
    rw [e]
    iterate 3 (refine mj_r_pure rfl rfl ?_)
    refine mj_r_callV (ci := 10) (kc := 0) (ks := 0) rfl li_Ref_194 ck_Ref_onPaper iv_Ref_onPaper (by decide) rfl rfl (K_Ref_onPaper (sC S 9 f) _ nx n hn h4) rfl rfl (Nat.le_of_ble_eq_true rfl) ?_
    rintro _ _ _ ⟨rfl, rfl, rfl⟩ _
    rw [sp_on_C, ox2]
    refine mj_r_if_ge rfl (fun c4 => ?_) (fun c4 => absurd c4 (fun q => q (nI_pos' (by omega))))
    refine mj_r_pure rfl rfl ?_
    refine rr_get rfl rfl rfl ?_
    iterate 2 (refine mj_r_pure rfl rfl ?_)
    refine rr_get rfl rfl rfl ?_
    iterate 2 (refine mj_r_pure rfl rfl ?_)
    refine mj_r_callV (ci := 10) (kc := 0) (ks := 0) rfl li_Ref_194 ck_Ref_onPaper iv_Ref_onPaper (by decide) rfl rfl (K_Ref_onPaper (sC S 9 f) _ nx n hn h4) rfl rfl (Nat.le_of_ble_eq_true rfl) ?_
    rintro _ _ _ ⟨rfl, rfl, rfl⟩ _
    rw [sp_on_C, ox2]
    refine rx_iald rfl rfl (by first | rfl | assumption) (by omega) ?_
    refine rx_iast rfl rfl (by first | rfl | assumption) (by omega) ?_
    rw [sC_9]
    refine mj_r_pure rfl rfl ?_
    exact mj_r_iret rfl rfl rfl (hQ)
set_option maxRecDepth 20000 in
set_option maxHeartbeats 4000000 in
theorem rl_has3 {Q : mj_post} {nx n a b ka t : Nat} {S : rf_S} {op : Int32} {f : Nat → Int32} (h4 : n ≤ 4) (hn : S.1 36 0 = nI n) (ha : a < 16) (hb : b < 16) (ht : t < 16) (hop : op = 7 ∧ f b &&& 15 = nI t ∨ op = 8 ∧ f a &&& 15 = nI t) (ox : sp_on S (nI t) n = none) (hQ : Q.2 (some (.int 0)) (rf_h (sC S 9 f)) mj_0 nx) : mj_W me_Ref_hasCells 107 [(0, .ref 21), (1, .int (nI ka)), (2, .int op), (3, .int (nI a)), (4, .int (nI b)), (5, .int 1)] [] (rf_h (sC S 9 f)) mj_0 nx 0 0 Q := by
  have ox2 : oI (sp_on S (nI t) n) = -1 := by rw [ox]; rfl
  rcases hop with ⟨rfl, e⟩ | ⟨rfl, e⟩
  · iterate 2 (refine mj_r_pure rfl rfl ?_)
    refine mj_r_icmp_eq rfl (fun c1 => ?_) (fun c1 => absurd c1 (fun q => q rfl))
    refine mj_r_pure rfl rfl ?_
    refine rr_get rfl rfl rfl ?_
    iterate 2 (refine mj_r_pure rfl rfl ?_)
    refine mj_r_icmp_ne rfl (fun c2 => absurd c2 (fun q => q rfl)) (fun c2 => ?_)
    iterate 2 (refine mj_r_pure rfl rfl ?_)
    refine rx_iald rfl rfl (by first | rfl | assumption) (by omega) ?_
    iterate 2 (refine mj_r_pure rfl rfl ?_)
    change mj_W _ _ _ [.int (f b &&& 15)] _ _ _ _ _ _
    rw [e]
    iterate 3 (refine mj_r_pure rfl rfl ?_)
    refine mj_r_callV (ci := 10) (kc := 0) (ks := 0) rfl li_Ref_194 ck_Ref_onPaper iv_Ref_onPaper (by decide) rfl rfl (K_Ref_onPaper (sC S 9 f) _ nx n hn h4) rfl rfl (Nat.le_of_ble_eq_true rfl) ?_
    rintro _ _ _ ⟨rfl, rfl, rfl⟩ _
    rw [sp_on_C, ox2]
    refine mj_r_if_ge rfl (fun c3 => absurd c3 (m1_neg)) (fun c3 => ?_)
    refine mj_r_pure rfl rfl ?_
    exact mj_r_iret rfl rfl rfl (hQ)
  · iterate 2 (refine mj_r_pure rfl rfl ?_)
    refine mj_r_icmp_eq rfl (fun c1 => absurd c1 (by decide)) (fun c1 => ?_)
    iterate 2 (refine mj_r_pure rfl rfl ?_)
    refine mj_r_icmp_ne rfl (fun c2 => absurd c2 (fun q => q rfl)) (fun c2 => ?_)
    refine mj_r_pure rfl rfl ?_
    refine rr_get rfl rfl rfl ?_
    iterate 2 (refine mj_r_pure rfl rfl ?_)
    refine mj_r_icmp_ne rfl (fun c3 => ?_) (fun c3 => absurd c3 (by decide))
    refine mj_r_pure rfl rfl ?_
    refine rx_iald rfl rfl (by first | rfl | assumption) (by omega) ?_
    iterate 2 (refine mj_r_pure rfl rfl ?_)
    change mj_W _ _ _ [.int (f a &&& 15)] _ _ _ _ _ _
    rw [e]
    iterate 3 (refine mj_r_pure rfl rfl ?_)
    refine mj_r_callV (ci := 10) (kc := 0) (ks := 0) rfl li_Ref_194 ck_Ref_onPaper iv_Ref_onPaper (by decide) rfl rfl (K_Ref_onPaper (sC S 9 f) _ nx n hn h4) rfl rfl (Nat.le_of_ble_eq_true rfl) ?_
    rintro _ _ _ ⟨rfl, rfl, rfl⟩ _
    rw [sp_on_C, ox2]
    refine mj_r_if_ge rfl (fun c4 => absurd c4 (m1_neg)) (fun c4 => ?_)
    refine mj_r_pure rfl rfl ?_
    exact mj_r_iret rfl rfl rfl (hQ)
theorem on_dec (S : rf_S) (x : Int32) (n : Nat) : sp_on S x n = none ∨ ∃ j, j < n ∧ sp_on S x n = some j := by
  cases h : sp_on S x n with
  | none => exact Or.inl rfl
  | some j => exact Or.inr ⟨j, sp_on_lt h, rfl⟩
set_option maxRecDepth 20000 in
set_option maxHeartbeats 4000000 in
theorem rl_hasA {Q : mj_post} {nx a b ka : Nat} {S : rf_S} {op : Int32} (hka : ka < 216) (hop : S.1 0 ka = op) (ha : S.1 1 ka = nI a) (hb : S.1 2 ka = nI b) (k : ∀ t : Int32, (t = 1 ∧ tw op) ∨ (t = 0 ∧ ¬ tw op ∧ ¬ op = 7 ∧ ¬ op = 8) → mj_W me_Ref_hasCells 44 [(0, .ref 21), (1, .int (nI ka)), (2, .int op), (3, .int (nI a)), (4, .int (nI b)), (5, .int t)] [] (rf_h S) mj_0 nx 0 0 Q) : mj_W me_Ref_hasCells 0 [(0, .ref 21), (1, .int (nI ka))] [] (rf_h S) mj_0 nx 0 0 Q := by
  have k9 := k
  rw [← ha, ← hb, ← hop] at k9
  rw [← hop] at k
  refine mj_r_pure rfl rfl ?_
  refine rr_get rfl rfl rfl ?_
  refine mj_r_pure rfl rfl ?_
  refine rx_iald rfl rfl (by first | rfl | assumption) (by omega) ?_
  iterate 2 (refine mj_r_pure rfl rfl ?_)
  refine rr_get rfl rfl rfl ?_
  refine mj_r_pure rfl rfl ?_
  refine rx_iald rfl rfl (by first | rfl | assumption) (by omega) ?_
  iterate 2 (refine mj_r_pure rfl rfl ?_)
  refine rr_get rfl rfl rfl ?_
  refine mj_r_pure rfl rfl ?_
  refine rx_iald rfl rfl (by first | rfl | assumption) (by omega) ?_
  iterate 2 (refine mj_r_pure rfl rfl ?_)
  refine mj_r_if_eq rfl (fun c1 => ?_) (fun c1 => ?_)
  · iterate 2 (refine mj_r_pure rfl rfl ?_)
    exact k9 _ (Or.inr ⟨rfl, fun q => q.1 c1, fun q => absurd (c1.symm.trans q) (by decide), fun q => absurd (c1.symm.trans q) (by decide)⟩)
  · iterate 2 (refine mj_r_pure rfl rfl ?_)
    refine mj_r_icmp_eq rfl (fun c2 => ?_) (fun c2 => ?_)
    · iterate 2 (refine mj_r_pure rfl rfl ?_)
      exact k9 _ (Or.inr ⟨rfl, fun q => q.2.1 c2, fun q => absurd (c2.symm.trans q) (by decide), fun q => absurd (c2.symm.trans q) (by decide)⟩)
    · iterate 2 (refine mj_r_pure rfl rfl ?_)
      refine mj_r_icmp_eq rfl (fun c3 => ?_) (fun c3 => ?_)
      · iterate 2 (refine mj_r_pure rfl rfl ?_)
        exact k9 _ (Or.inr ⟨rfl, fun q => q.2.2 c3, fun q => absurd (c3.symm.trans q) (by decide), fun q => absurd (c3.symm.trans q) (by decide)⟩)
      · iterate 3 (refine mj_r_pure rfl rfl ?_)
        exact k9 _ (Or.inl ⟨rfl, c1, c2, c3⟩)
