/-! THE CLASS: rows over any heap, its small methods -/
section CH
variable {h : mj_H} {ci a b n n' : Nat} {x y : List Value}
theorem so_self : (mj_so h ci a x).1 ci a = some x := by simp [mj_so]
theorem so_ne (e : b ≠ a) : (mj_so h ci a x).1 ci b = h.1 ci b := by simp [mj_so, e]
theorem so_so : mj_so (mj_so h ci a x) ci a y = mj_so h ci a y := by
  refine Prod.ext ?_ rfl
  funext c q
  simp only [mj_so]
  split
  · split <;> rfl
  · rfl
theorem so_id (e : h.1 ci a = some x) : mj_so h ci a x = h := by
  refine Prod.ext ?_ rfl
  funext c q
  simp only [mj_so]
  split
  · split
    · next e1 e2 => rw [e1, e2, e]
    · rfl
  · rfl
theorem si_self {f : Nat → Int32} : (mj_si h a n f).2.1 a = some (n, f) := by simp [mj_si]
theorem si_ne {f : Nat → Int32} (e : b ≠ a) : (mj_si h a n f).2.1 b = h.2.1 b := by simp [mj_si, e]
theorem si_si {f g : Nat → Int32} : mj_si (mj_si h a n f) a n' g = mj_si h a n' g := by
  refine Prod.ext rfl (Prod.ext ?_ rfl)
  funext q
  simp only [mj_si]
  split <;> rfl
theorem si_id {f : Nat → Int32} (e : h.2.1 a = some (n, f)) : mj_si h a n f = h := by
  refine Prod.ext rfl (Prod.ext ?_ rfl)
  funext q
  simp only [mj_si]
  split
  · next e1 => rw [e1, e]
  · rfl
theorem sl_self {f : Nat → Int64} : (mj_sl h a n f).2.2.1 a = some (n, f) := by simp [mj_sl]
theorem sl_ne {f : Nat → Int64} (e : b ≠ a) : (mj_sl h a n f).2.2.1 b = h.2.2.1 b := by simp [mj_sl, e]
theorem sl_sl {f g : Nat → Int64} : mj_sl (mj_sl h a n f) a n' g = mj_sl h a n' g := by
  refine Prod.ext rfl (Prod.ext rfl (Prod.ext ?_ rfl))
  funext q
  simp only [mj_sl]
  split <;> rfl
theorem sl_id {f : Nat → Int64} (e : h.2.2.1 a = some (n, f)) : mj_sl h a n f = h := by
  refine Prod.ext rfl (Prod.ext rfl (Prod.ext ?_ rfl))
  funext q
  simp only [mj_sl]
  split
  · next e1 => rw [e1, e]
  · rfl
theorem sr_self {f : Nat → Option Nat} : (mj_sr h ci a n f).2.2.2 ci a = some (n, f) := by simp [mj_sr]
theorem sr_ne {f : Nat → Option Nat} (e : b ≠ a) : (mj_sr h ci a n f).2.2.2 ci b = h.2.2.2 ci b := by simp [mj_sr, e]
end CH
theorem rfv {f : Nat → Option Nat} {j a : Nat} (h : f j = some a) : va_rf (f j) = .ref a := by rw [h]; rfl
theorem vu_s {f : Nat → Option Nat} {j : Nat} {x : Option Nat} : va_up f j x j = x := by simp [va_up]
theorem vu_n {f : Nat → Option Nat} {j i : Nat} {x : Option Nat} (h : i ≠ j) : va_up f j x i = f i := by simp [va_up, h]
section CX
variable {M : mj_M} {Q : mj_post} {pc len n : Nat} {x : Value} {lv lv' : List (Nat × Value)} {st r : List Value} {h g : mj_H} {nx kc ks : Nat}
theorem cx_iald {a N j : Nat} {f : Nat → Int32} {i : Int32} (hd : mj_find (mj_tab M) pc = some (.iaload, 1, x, n)) (ho : h.2.1 a = some (N, f)) (he : i = nI j) (hl : j < N) (kk : mj_W M n lv (.int (f j) :: r) h g nx kc ks Q) (hN : N < 2 ^ 31 := by decide) : mj_W M pc lv (.int i :: .ref a :: r) h g nx kc ks Q := by
  subst he
  exact mj_r_iald hd ho (vp_in_nI hl hN) (nI_clamp (by omega)) kk
theorem cx_lald {a N j : Nat} {f : Nat → Int64} {i : Int32} (hd : mj_find (mj_tab M) pc = some (.laload, 1, x, n)) (ho : h.2.2.1 a = some (N, f)) (he : i = nI j) (hl : j < N) (kk : mj_W M n lv (.long (f j) :: r) h g nx kc ks Q) (hN : N < 2 ^ 31 := by decide) : mj_W M pc lv (.int i :: .ref a :: r) h g nx kc ks Q := by
  subst he
  exact mj_r_lald hd ho (vp_in_nI hl hN) (nI_clamp (by omega)) kk
theorem cx_iast {a N j : Nat} {f : Nat → Int32} {i v : Int32} (hd : mj_find (mj_tab M) pc = some (.iastore, 1, x, n)) (ho : h.2.1 a = some (N, f)) (he : i = nI j) (hl : j < N) (kk : mj_W M n lv r (mj_si h a N (upd f j v)) g nx kc ks Q) (hN : N < 2 ^ 31 := by decide) : mj_W M pc lv (.int v :: .int i :: .ref a :: r) h g nx kc ks Q := by
  subst he
  exact mj_r_iast hd ho (vp_in_nI hl hN) (nI_clamp (by omega)) kk
theorem cx_last {a N j : Nat} {f : Nat → Int64} {i : Int32} {v : Int64} (hd : mj_find (mj_tab M) pc = some (.lastore, 1, x, n)) (ho : h.2.2.1 a = some (N, f)) (he : i = nI j) (hl : j < N) (kk : mj_W M n lv r (mj_sl h a N (vp_updL f j v)) g nx kc ks Q) (hN : N < 2 ^ 31 := by decide) : mj_W M pc lv (.long v :: .int i :: .ref a :: r) h g nx kc ks Q := by
  subst he
  exact mj_r_last hd ho (vp_in_nI hl hN) (nI_clamp (by omega)) kk
theorem cx_aald {ci a N j : Nat} {f : Nat → Option Nat} {i : Int32} {v : Value} (hd : mj_find (mj_tab M) pc = some (.aaload, 1, x, n)) (ho : h.2.2.2 ci a = some (N, f)) (he : i = nI j) (hl : j < N) (hv : va_rf (f j) = v) (kk : mj_W M n lv (v :: r) h g nx kc ks Q) (hN : N < 2 ^ 31 := by decide) : mj_W M pc lv (.int i :: .ref a :: r) h g nx kc ks Q := by
  subst he
  exact mj_r_aald hd ho (vp_in_nI hl hN) (nI_clamp (by omega)) hv kk
theorem cx_aast {ci a N j v : Nat} {f : Nat → Option Nat} {i : Int32} {vs : List Value} (hd : mj_find (mj_tab M) pc = some (.aastore, 1, x, n)) (ho : h.2.2.2 ci a = some (N, f)) (hvo : h.1 ci v = some vs) (he : i = nI j) (hl : j < N) (kk : mj_W M n lv r (mj_sr h ci a N (va_up f j (some v))) g nx kc ks Q) (hN : N < 2 ^ 31 := by decide) : mj_W M pc lv (.ref v :: .int i :: .ref a :: r) h g nx kc ks Q := by
  subst he
  exact mj_r_aast hd ho hvo (vp_in_nI hl hN) (nI_clamp (by omega)) kk
variable {M' : mj_M} {As rest : List Value} {mc ms : Nat} {Q' : Option Value → mj_H → Nat → Prop}
theorem mj_r_cV {idx ci a N : Nat} {fs : List Value} (hd : mj_find (mj_tab M) pc = some (.invokevirtual idx, 3, x, n)) (hli : Cond.methodLink (mj_own M) idx (mj_y M') ∈ mj_G) (hck : mj_ck M' N) (hiv : mj_iv M') (hrm : mj_fr M' + 1 ≤ mj_fr M ∧ 8 + (mj_nL M' + 11) + mj_lo M' ≤ mj_lo M) (K : mj_K M' (.ref a :: As) h nx mc ms Q') (hst : st = As.reverse ++ .ref a :: rest) (hN : As.length = N) (hrs : (rest.map Value.category).sum ≤ 8) (hcn : mj_cn ci = (mj_y M').cls) (ho : h.1 ci a = some fs) (k : ∀ r h' nx', Q' r h' nx' → nx ≤ nx' → mj_W M n lv (r.toList ++ rest) h' g nx' kc ks Q) : mj_W M pc lv st h g nx (kc + mc) (ks + ms) Q := mj_r_callV hd hli hck hiv hrm ho hcn K hst hN hrs k
theorem mj_r_cV0 {idx ci a N : Nat} {fs : List Value} (hd : mj_find (mj_tab M) pc = some (.invokevirtual idx, 3, x, n)) (hli : Cond.methodLink (mj_own M) idx (mj_y M') ∈ mj_G) (hck : mj_ck M' N) (hiv : mj_iv M') (hrm : mj_fr M' + 1 ≤ mj_fr M ∧ 8 + (mj_nL M' + 11) + mj_lo M' ≤ mj_lo M) (K : mj_K M' (.ref a :: As) h nx 0 0 Q') (hst : st = As.reverse ++ .ref a :: rest) (hN : As.length = N) (hrs : (rest.map Value.category).sum ≤ 8) (hcn : mj_cn ci = (mj_y M').cls) (ho : h.1 ci a = some fs) (k : ∀ r h' nx', Q' r h' nx' → nx ≤ nx' → mj_W M n lv (r.toList ++ rest) h' g nx' kc ks Q) : mj_W M pc lv st h g nx kc ks Q := mj_r_callV hd hli hck hiv hrm ho hcn K hst hN hrs k
theorem mj_r_cI0 {idx a N : Nat} (hd : mj_find (mj_tab M) pc = some (.invokespecial idx, 3, x, n)) (hli : Cond.methodLink (mj_own M) idx (mj_y M') ∈ mj_G) (hck : mj_ck M' N) (hiv : Cond.instanceMethod (mj_y M') ∈ mj_G) (hnm : (mj_y M').name = "<init>") (hrt : mj_ret M' = none) (hrm : mj_fr M' + 1 ≤ mj_fr M ∧ 8 + (mj_nL M' + 11) + mj_lo M' ≤ mj_lo M) (K : mj_K M' (.ref a :: As) h nx 0 0 Q') (hst : st = As.reverse ++ .ref a :: rest) (hN : As.length = N) (hrs : (rest.map Value.category).sum ≤ 8) (k : ∀ r h' nx', Q' r h' nx' → nx ≤ nx' → mj_W M n lv (r.toList ++ rest) h' g nx' kc ks Q) : mj_W M pc lv st h g nx kc ks Q := mj_r_callI hd hli hck hiv hnm hrt hrm K hst hN hrs k
theorem mj_r_cIN0 {idx a N : Nat} (hd : mj_find (mj_tab M) pc = some (.invokespecial idx, 3, x, n)) (hli : Cond.methodLinkNest (mj_own M) idx (mj_y M') "DisputeHalving" ∈ mj_N) (hck : mj_ck M' N) (hiv : Cond.instanceMethod (mj_y M') ∈ mj_G) (hnm : (mj_y M').name = "<init>") (hrt : mj_ret M' = none) (hrm : mj_fr M' + 1 ≤ mj_fr M ∧ 8 + (mj_nL M' + 11) + mj_lo M' ≤ mj_lo M) (K : mj_K M' (.ref a :: As) h nx 0 0 Q') (hst : st = As.reverse ++ .ref a :: rest) (hN : As.length = N) (hrs : (rest.map Value.category).sum ≤ 8) (k : ∀ r h' nx', Q' r h' nx' → nx ≤ nx' → mj_W M n lv (r.toList ++ rest) h' g nx' kc ks Q) : mj_W M pc lv st h g nx kc ks Q := mj_r_callIN hd hli hck hiv hnm hrt hrm K hst hN hrs k
end CX
/-- a contract of the class: the answer v, the heap behind -/
abbrev cK (M : mj_M) (as : List Value) (h : mj_H) (nx : Nat) (v : Option Value) (h' : mj_H) : Prop := mj_K M as h nx 0 0 (fun r h2 nx' => r = v ∧ h2 = h' ∧ nx = nx')
set_option maxRecDepth 20000 in
set_option maxHeartbeats 4000000 in
theorem K_Top_isCell (k : Int32) (h : mj_H) (nx : Nat) : cK me_Top_isCell [.int k] h nx (some (.int (bI (isN k 16)))) h := by
  refine mj_K.of ok_Top_isCell ck_Top_isCell (Nat.le_of_ble_eq_true rfl) ?_
  refine mj_r_pure rfl rfl ?_
  refine mj_r_if_lt rfl (fun c1 => ?_) (fun c1 => ?_)
  · refine mj_r_pure rfl rfl ?_
    exact mj_r_iret rfl rfl rfl ⟨by rw [bI_f (lt0_nle c1 _)], rfl, rfl⟩
  · iterate 2 (refine mj_r_pure rfl rfl ?_)
    refine mj_r_icmp_ge rfl (fun c2 => ?_) (fun c2 => ?_)
    · refine mj_r_pure rfl rfl ?_
      exact mj_r_iret rfl rfl rfl ⟨by rw [bI_f (ge_nlt c2)], rfl, rfl⟩
    · iterate 2 (refine mj_r_pure rfl rfl ?_)
      exact mj_r_iret rfl rfl rfl ⟨by rw [bI_t ⟨nlt0_le c1, nge_lt c2⟩], rfl, rfl⟩
set_option maxRecDepth 20000 in
set_option maxHeartbeats 4000000 in
theorem K_Top_isPlayer (k : Int32) (h : mj_H) (nx : Nat) : cK me_Top_isPlayer [.int k] h nx (some (.int (bI (isN k 8)))) h := by
  refine mj_K.of ok_Top_isPlayer ck_Top_isPlayer (Nat.le_of_ble_eq_true rfl) ?_
  refine mj_r_pure rfl rfl ?_
  refine mj_r_if_lt rfl (fun c1 => ?_) (fun c1 => ?_)
  · refine mj_r_pure rfl rfl ?_
    exact mj_r_iret rfl rfl rfl ⟨by rw [bI_f (lt0_nle c1 _)], rfl, rfl⟩
  · iterate 2 (refine mj_r_pure rfl rfl ?_)
    refine mj_r_icmp_ge rfl (fun c2 => ?_) (fun c2 => ?_)
    · refine mj_r_pure rfl rfl ?_
      exact mj_r_iret rfl rfl rfl ⟨by rw [bI_f (ge_nlt c2)], rfl, rfl⟩
    · iterate 2 (refine mj_r_pure rfl rfl ?_)
      exact mj_r_iret rfl rfl rfl ⟨by rw [bI_t ⟨nlt0_le c1, nge_lt c2⟩], rfl, rfl⟩
abbrev oIns (op a b c : Int32) : List Value := [.int op, .int a, .int b, .int c]
section CI
variable {h : mj_H} {i : Nat} {op a b c : Int32} (ho : h.1 4 i = some (oIns op a b c))
set_option maxRecDepth 20000 in
set_option maxHeartbeats 4000000 in
theorem K_Instruction_init (x y z w : Int32) (h : mj_H) (i nx : Nat) (fs : List Value) (ho : h.1 4 i = some (oIns x y z w)) (op a b c : Int32) : cK me_Instruction_init [.ref i, .int op, .int a, .int b, .int c] h nx none (mj_so h 4 i (oIns op a b c)) := by
  refine mj_K.of ok_Instruction_init ck_Instruction_init (Nat.le_of_ble_eq_true rfl) ?_
  refine mj_r_pure rfl rfl ?_
  refine mj_r_oi rfl oi_Instruction (by decide) (by decide) ?_
  iterate 2 (refine mj_r_pure rfl rfl ?_)
  refine mj_r_putf rfl rfl ho rfl (Or.inr ⟨rfl, rfl, rfl⟩) rfl rfl ?_
  iterate 2 (refine mj_r_pure rfl rfl ?_)
  refine mj_r_putf rfl rfl so_self rfl (Or.inr ⟨rfl, rfl, rfl⟩) rfl rfl ?_
  iterate 2 (refine mj_r_pure rfl rfl ?_)
  refine mj_r_putf rfl rfl so_self rfl (Or.inr ⟨rfl, rfl, rfl⟩) rfl rfl ?_
  iterate 2 (refine mj_r_pure rfl rfl ?_)
  refine mj_r_putf rfl rfl so_self rfl (Or.inr ⟨rfl, rfl, rfl⟩) rfl rfl ?_
  exact mj_r_ret rfl rfl ⟨rfl, by simp only [so_so], rfl⟩
set_option maxRecDepth 20000 in
set_option maxHeartbeats 4000000 in
theorem K_Instruction_asksForB (h : mj_H) (i nx : Nat) (op a b c : Int32) (ho : h.1 4 i = some (oIns op a b c)) : cK me_Instruction_asksForB [.ref i] h nx (some (.int (bI (¬ op = 0 ∧ ¬ op = 5 ∧ ¬ op = 9)))) h := by
  refine mj_K.of ok_Instruction_asksForB ck_Instruction_asksForB (Nat.le_of_ble_eq_true rfl) ?_
  refine mj_r_pure rfl rfl ?_
  refine mj_r_getf rfl rfl ho rfl ?_
  refine mj_r_if_eq rfl (fun c1 => ?_) (fun c1 => ?_)
  · refine mj_r_pure rfl rfl ?_
    exact mj_r_iret rfl rfl rfl ⟨by rw [bI_f (fun q => q.1 c1)], rfl, rfl⟩
  · refine mj_r_pure rfl rfl ?_
    refine mj_r_getf rfl rfl ho rfl ?_
    refine mj_r_pure rfl rfl ?_
    refine mj_r_icmp_eq rfl (fun c2 => ?_) (fun c2 => ?_)
    · refine mj_r_pure rfl rfl ?_
      exact mj_r_iret rfl rfl rfl ⟨by rw [bI_f (fun q => q.2.1 c2)], rfl, rfl⟩
    · refine mj_r_pure rfl rfl ?_
      refine mj_r_getf rfl rfl ho rfl ?_
      refine mj_r_pure rfl rfl ?_
      refine mj_r_icmp_eq rfl (fun c3 => ?_) (fun c3 => ?_)
      · refine mj_r_pure rfl rfl ?_
        exact mj_r_iret rfl rfl rfl ⟨by rw [bI_f (fun q => q.2.2 c3)], rfl, rfl⟩
      · iterate 2 (refine mj_r_pure rfl rfl ?_)
        exact mj_r_iret rfl rfl rfl ⟨by rw [bI_t ⟨c1, c2, c3⟩], rfl, rfl⟩
def sp_told (op a x y : Int32) : Int32 := if op = 7 then y &&& 15 else if op = 8 then x &&& 15 else a
set_option maxRecDepth 20000 in
set_option maxHeartbeats 4000000 in
theorem K_Instruction_toldCell (h : mj_H) (i nx : Nat) (op a b c x y : Int32) (ho : h.1 4 i = some (oIns op a b c)) : cK me_Instruction_toldCell [.ref i, .int x, .int y] h nx (some (.int (sp_told op a x y))) h := by
  refine mj_K.of ok_Instruction_toldCell ck_Instruction_toldCell (Nat.le_of_ble_eq_true rfl) ?_
  refine mj_r_pure rfl rfl ?_
  refine mj_r_getf rfl rfl ho rfl ?_
  refine mj_r_pure rfl rfl ?_
  refine mj_r_icmp_ne rfl (fun c1 => ?_) (fun c1 => ?_)
  · refine mj_r_pure rfl rfl ?_
    refine mj_r_getf rfl rfl ho rfl ?_
    refine mj_r_pure rfl rfl ?_
    refine mj_r_icmp_ne rfl (fun c2 => ?_) (fun c2 => ?_)
    · refine mj_r_pure rfl rfl ?_
      refine mj_r_getf rfl rfl ho rfl ?_
      exact mj_r_iret rfl rfl rfl ⟨by rw [sp_told, if_neg c1, if_neg c2], rfl, rfl⟩
    · iterate 4 (refine mj_r_pure rfl rfl ?_)
      exact mj_r_iret rfl rfl rfl ⟨by rw [sp_told, if_neg c1, if_pos c2], rfl, rfl⟩
  · iterate 3 (refine mj_r_pure rfl rfl ?_)
    exact mj_r_iret rfl rfl rfl ⟨by rw [sp_told, if_pos c1], rfl, rfl⟩
set_option maxRecDepth 20000 in
set_option maxHeartbeats 4000000 in
theorem K_Instruction_writes (h : mj_H) (i nx : Nat) (op a b c : Int32) (ho : h.1 4 i = some (oIns op a b c)) : cK me_Instruction_writes [.ref i] h nx (some (.int (bI (¬ op = 9)))) h := by
  refine mj_K.of ok_Instruction_writes ck_Instruction_writes (Nat.le_of_ble_eq_true rfl) ?_
  refine mj_r_pure rfl rfl ?_
  refine mj_r_getf rfl rfl ho rfl ?_
  refine mj_r_pure rfl rfl ?_
  refine mj_r_icmp_eq rfl (fun c1 => ?_) (fun c1 => ?_)
  · refine mj_r_pure rfl rfl ?_
    exact mj_r_iret rfl rfl rfl ⟨by rw [bI_f (fun q => q c1)], rfl, rfl⟩
  · iterate 2 (refine mj_r_pure rfl rfl ?_)
    exact mj_r_iret rfl rfl rfl ⟨by rw [bI_t c1], rfl, rfl⟩
/-- what writes is one of nine -/
def op8 (op : Int32) : Prop := op = 0 ∨ op = 1 ∨ op = 2 ∨ op = 3 ∨ op = 4 ∨ op = 5 ∨ op = 6 ∨ op = 7 ∨ op = 8
set_option maxRecDepth 20000 in
set_option maxHeartbeats 4000000 in
theorem K_Instruction_result (h : mj_H) (i nx : Nat) (op a b c x y t : Int32) (ho : h.1 4 i = some (oIns op a b c)) (hop : op8 op) : cK me_Instruction_result [.ref i, .int x, .int y, .int t] h nx (some (.int (sp_val op x y c t))) h := by
  refine mj_K.of ok_Instruction_result ck_Instruction_result (Nat.le_of_ble_eq_true rfl) ?_
  refine mj_r_pure rfl rfl ?_
  refine mj_r_getf rfl rfl ho rfl ?_
  by_cases c_0 : op = 0
  · subst c_0
    refine mj_r_switch (t := 56) rfl (Or.inr ⟨by decide +kernel, by decide +kernel, 52, by decide +kernel, by decide +kernel⟩) ?_
    refine mj_r_pure rfl rfl ?_
    refine mj_r_getf rfl rfl ho rfl ?_
    exact mj_r_iret rfl rfl rfl ⟨rfl, rfl, rfl⟩
  by_cases c_1 : op = 1
  · subst c_1
    refine mj_r_switch (t := 61) rfl (Or.inr ⟨by decide +kernel, by decide +kernel, 57, by decide +kernel, by decide +kernel⟩) ?_
    iterate 3 (refine mj_r_pure rfl rfl ?_)
    exact mj_r_iret rfl rfl rfl ⟨rfl, rfl, rfl⟩
  by_cases c_2 : op = 2
  · subst c_2
    refine mj_r_switch (t := 65) rfl (Or.inr ⟨by decide +kernel, by decide +kernel, 61, by decide +kernel, by decide +kernel⟩) ?_
    iterate 3 (refine mj_r_pure rfl rfl ?_)
    exact mj_r_iret rfl rfl rfl ⟨rfl, rfl, rfl⟩
  by_cases c_3 : op = 3
  · subst c_3
    refine mj_r_switch (t := 69) rfl (Or.inr ⟨by decide +kernel, by decide +kernel, 65, by decide +kernel, by decide +kernel⟩) ?_
    iterate 3 (refine mj_r_pure rfl rfl ?_)
    exact mj_r_iret rfl rfl rfl ⟨rfl, rfl, rfl⟩
  by_cases c_4 : op = 4
  · subst c_4
    refine mj_r_switch (t := 73) rfl (Or.inr ⟨by decide +kernel, by decide +kernel, 69, by decide +kernel, by decide +kernel⟩) ?_
    iterate 3 (refine mj_r_pure rfl rfl ?_)
    exact mj_r_iret rfl rfl rfl ⟨rfl, rfl, rfl⟩
  by_cases c_5 : op = 5
  · subst c_5
    refine mj_r_switch (t := 77) rfl (Or.inr ⟨by decide +kernel, by decide +kernel, 73, by decide +kernel, by decide +kernel⟩) ?_
    iterate 2 (refine mj_r_pure rfl rfl ?_)
    refine mj_r_getf rfl rfl ho rfl ?_
    iterate 3 (refine mj_r_pure rfl rfl ?_)
    refine mj_r_getf rfl rfl ho rfl ?_
    iterate 3 (refine mj_r_pure rfl rfl ?_)
    exact mj_r_iret rfl rfl rfl ⟨rfl, rfl, rfl⟩
  by_cases c_6 : op = 6
  · subst c_6
    refine mj_r_switch (t := 92) rfl (Or.inr ⟨by decide +kernel, by decide +kernel, 88, by decide +kernel, by decide +kernel⟩) ?_
    iterate 2 (refine mj_r_pure rfl rfl ?_)
    refine mj_r_icmp_ge rfl (fun c1 => ?_) (fun c1 => ?_)
    · refine mj_r_pure rfl rfl ?_
      exact mj_r_iret rfl rfl rfl ⟨by show _ = some (Value.int (if x < y then 1 else 0)); rw [if_neg (fun q => absurd c1 (by rw [Int32.le_iff_toInt_le]; rw [Int32.lt_iff_toInt_lt] at q; omega))], rfl, rfl⟩
    · iterate 2 (refine mj_r_pure rfl rfl ?_)
      exact mj_r_iret rfl rfl rfl ⟨by show _ = some (Value.int (if x < y then 1 else 0)); rw [if_pos (nge_lt c1)], rfl, rfl⟩
  by_cases c_7 : op = 7
  · subst c_7
    refine mj_r_switch (t := 103) rfl (Or.inr ⟨by decide +kernel, by decide +kernel, 99, by decide +kernel, by decide +kernel⟩) ?_
    refine mj_r_pure rfl rfl ?_
    exact mj_r_iret rfl rfl rfl ⟨rfl, rfl, rfl⟩
  by_cases c_8 : op = 8
  · subst c_8
    refine mj_r_switch (t := 105) rfl (Or.inr ⟨by decide +kernel, by decide +kernel, 101, by decide +kernel, by decide +kernel⟩) ?_
    refine mj_r_pure rfl rfl ?_
    exact mj_r_iret rfl rfl rfl ⟨rfl, rfl, rfl⟩
  refine mj_r_switch (t := 107) rfl (Or.inl ⟨by have e_0 := lv_neT (a := 0) c_0 (by decide +kernel); have e_1 := lv_neT (a := 1) c_1 (by decide +kernel); have e_2 := lv_neT (a := 2) c_2 (by decide +kernel); have e_3 := lv_neT (a := 3) c_3 (by decide +kernel); have e_4 := lv_neT (a := 4) c_4 (by decide +kernel); have e_5 := lv_neT (a := 5) c_5 (by decide +kernel); have e_6 := lv_neT (a := 6) c_6 (by decide +kernel); have e_7 := lv_neT (a := 7) c_7 (by decide +kernel); have e_8 := lv_neT (a := 8) c_8 (by decide +kernel); omega, by decide⟩) ?_
  refine mj_r_pure rfl rfl ?_
  exact absurd hop (by unfold op8; rintro (q | q | q | q | q | q | q | q | q) <;> contradiction)
set_option maxRecDepth 20000 in
set_option maxHeartbeats 4000000 in
theorem K_Instruction_placeBehind (h : mj_H) (i nx : Nat) (op a b c p x : Int32) (ho : h.1 4 i = some (oIns op a b c)) : cK me_Instruction_placeBehind [.ref i, .int p, .int x] h nx (some (.int (if op = 9 ∧ ¬ x = 0 then c else p + 1))) h := by
  refine mj_K.of ok_Instruction_placeBehind ck_Instruction_placeBehind (Nat.le_of_ble_eq_true rfl) ?_
  refine mj_r_pure rfl rfl ?_
  refine mj_r_getf rfl rfl ho rfl ?_
  refine mj_r_pure rfl rfl ?_
  refine mj_r_icmp_ne rfl (fun c1 => ?_) (fun c1 => ?_)
  · iterate 3 (refine mj_r_pure rfl rfl ?_)
    exact mj_r_iret rfl rfl rfl ⟨by rw [if_neg (fun q => c1 q.1)], rfl, rfl⟩
  · refine mj_r_pure rfl rfl ?_
    refine mj_r_if_eq rfl (fun c2 => ?_) (fun c2 => ?_)
    · iterate 3 (refine mj_r_pure rfl rfl ?_)
      exact mj_r_iret rfl rfl rfl ⟨by rw [if_neg (fun q => q.2 c2)], rfl, rfl⟩
    · refine mj_r_pure rfl rfl ?_
      refine mj_r_getf rfl rfl ho rfl ?_
      refine mj_r_pure rfl rfl ?_
      exact mj_r_iret rfl rfl rfl ⟨by rw [if_pos ⟨c1, c2⟩], rfl, rfl⟩
end CI
abbrev oPrg (l : Nat) (n : Int32) : List Value := [.ref l, .int n]
set_option maxRecDepth 20000 in
set_option maxHeartbeats 4000000 in
theorem K_Program_lineAt_t (h : mj_H) (p l n j i nx : Nat) (f : Nat → Option Nat) (ho : h.1 8 p = some (oPrg l (nI n))) (hl : h.2.2.2 4 l = some (24, f)) (hn : n ≤ 24) (hj : j < n) (hf : f j = some i) : cK me_Program_lineAt [.ref p, .int (nI j)] h nx (some (.ref i)) h := by
  refine mj_K.of ok_Program_lineAt ck_Program_lineAt (Nat.le_of_ble_eq_true rfl) ?_
  refine mj_r_pure rfl rfl ?_
  refine mj_r_if_lt rfl (fun c1 => absurd c1 (nI_pos (by omega))) (fun c1 => ?_)
  iterate 2 (refine mj_r_pure rfl rfl ?_)
  refine mj_r_getf rfl rfl ho rfl ?_
  refine mj_r_icmp_ge rfl (fun c2 => absurd c2 (nI_ge (by omega) (by omega))) (fun c2 => ?_)
  refine mj_r_pure rfl rfl ?_
  refine mj_r_getf rfl rfl ho rfl ?_
  refine mj_r_pure rfl rfl ?_
  refine cx_aald (ci := _) rfl hl (by first | rfl | assumption) (by omega) (rfv hf) ?_
  refine mj_r_pure rfl rfl ?_
  exact mj_r_aret rfl rfl ⟨rfl, rfl, rfl⟩
set_option maxRecDepth 20000 in
set_option maxHeartbeats 4000000 in
theorem K_Program_lineAt_f (h : mj_H) (p l n nx : Nat) (f : Nat → Option Nat) (x : Int32) (ho : h.1 8 p = some (oPrg l (nI n))) (hn : n ≤ 24) (hx : ¬ isN x (nI n)) : cK me_Program_lineAt [.ref p, .int x] h nx (some .null) h := by
  refine mj_K.of ok_Program_lineAt ck_Program_lineAt (Nat.le_of_ble_eq_true rfl) ?_
  refine mj_r_pure rfl rfl ?_
  refine mj_r_if_lt rfl (fun c1 => ?_) (fun c1 => ?_)
  · refine mj_r_pure rfl rfl ?_
    exact mj_r_aretN rfl rfl ⟨rfl, rfl, rfl⟩
  · iterate 2 (refine mj_r_pure rfl rfl ?_)
    refine mj_r_getf rfl rfl ho rfl ?_
    refine mj_r_icmp_ge rfl (fun c2 => ?_) (fun c2 => ?_)
    · refine mj_r_pure rfl rfl ?_
      exact mj_r_aretN rfl rfl ⟨rfl, rfl, rfl⟩
    · exact absurd ⟨nlt0_le c1, nge_lt c2⟩ hx
set_option maxRecDepth 20000 in
set_option maxHeartbeats 4000000 in
theorem K_Program_append_t (h : mj_H) (p l n i nx : Nat) (f : Nat → Option Nat) (vs : List Value) (ho : h.1 8 p = some (oPrg l (nI n))) (hl : h.2.2.2 4 l = some (24, f)) (hi : h.1 4 i = some vs) (hn : n < 24) : cK me_Program_append [.ref p, .ref i] h nx (some (.int (nI (n + 1)))) (mj_so (mj_sr h 4 l 24 (va_up f n (some i))) 8 p (oPrg l (nI (n + 1)))) := by
  refine mj_K.of ok_Program_append ck_Program_append (Nat.le_of_ble_eq_true rfl) ?_
  refine mj_r_pure rfl rfl ?_
  refine mj_r_getf rfl rfl ho rfl ?_
  refine mj_r_pure rfl rfl ?_
  refine mj_r_icmp_lt rfl (fun c1 => ?_) (fun c1 => absurd c1 (fun q => q (nI_lt (a := n) (b := 24) (by omega) (by omega))))
  refine mj_r_pure rfl rfl ?_
  refine mj_r_getf rfl rfl ho rfl ?_
  refine mj_r_pure rfl rfl ?_
  refine mj_r_getf rfl rfl ho rfl ?_
  refine mj_r_pure rfl rfl ?_
  refine cx_aast (ci := _) rfl hl hi (by first | rfl | assumption) (by omega) ?_
  iterate 2 (refine mj_r_pure rfl rfl ?_)
  refine mj_r_getf rfl rfl ho rfl ?_
  iterate 2 (refine mj_r_pure rfl rfl ?_)
  refine mj_r_putf rfl rfl ho rfl (Or.inl rfl) rfl rfl ?_
  refine mj_r_pure rfl rfl ?_
  refine mj_r_getf rfl rfl so_self rfl ?_
  exact mj_r_iret rfl rfl rfl ⟨by rw [← nI_1], by rw [← nI_1], rfl⟩
set_option maxRecDepth 20000 in
set_option maxHeartbeats 4000000 in
theorem K_Program_append_f (h : mj_H) (p l i nx : Nat) (ho : h.1 8 p = some (oPrg l (nI 24))) : cK me_Program_append [.ref p, .ref i] h nx (some (.int (-1))) h := by
  refine mj_K.of ok_Program_append ck_Program_append (Nat.le_of_ble_eq_true rfl) ?_
  refine mj_r_pure rfl rfl ?_
  refine mj_r_getf rfl rfl ho rfl ?_
  refine mj_r_pure rfl rfl ?_
  refine mj_r_icmp_lt rfl (fun c1 => absurd c1 (nI_nlt (a := 24) (b := 24) (by omega) (by omega))) (fun c1 => ?_)
  refine mj_r_pure rfl rfl ?_
  exact mj_r_iret rfl rfl rfl ⟨rfl, rfl, rfl⟩
