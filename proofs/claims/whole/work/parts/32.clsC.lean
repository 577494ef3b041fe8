/-! the class: its machine -/
abbrev oMch (m : mS) : List Value := [.ref 5, .ref 6, .int m.2.1, .int m.2.2]
/-- the heap with this machine -/
def cX (h : mj_H) (m : mS) (nd : Nat → Int64) : mj_H := mj_sl (mj_si (mj_so h 5 4 (oMch m)) 5 16 m.1) 6 32 nd
theorem cX_si (h : mj_H) (m : mS) (nd : Nat → Int64) (f : Nat → Int32) : mj_si (cX h m nd) 5 16 f = cX h (f, m.2) nd := by
  show mj_sl (mj_si (mj_si (mj_so h 5 4 (oMch m)) 5 16 m.1) 5 16 f) 6 32 nd = _
  rw [si_si]
  rfl
theorem cX_so (h : mj_H) (m : mS) (nd : Nat → Int64) (p d : Int32) : mj_so (cX h m nd) 5 4 [.ref 5, .ref 6, .int p, .int d] = cX h (m.1, p, d) nd := by
  show mj_sl (mj_si (mj_so (mj_so h 5 4 (oMch m)) 5 4 (oMch (m.1, p, d))) 5 16 m.1) 6 32 nd = _
  rw [so_so]
  rfl
theorem cX_sl (h : mj_H) (m : mS) (nd nd' : Nat → Int64) : mj_sl (cX h m nd) 6 32 nd' = cX h m nd' := by
  show mj_sl (mj_sl (mj_si (mj_so h 5 4 (oMch m)) 5 16 m.1) 6 32 nd) 6 32 nd' = _
  rw [sl_sl]
  rfl
theorem cX_cX (h : mj_H) (m m' : mS) (nd nd' : Nat → Int64) : cX (cX h m nd) m' nd' = cX h m' nd' := by
  show mj_sl (mj_si (mj_so (cX h m nd) 5 4 (oMch m')) 5 16 m'.1) 6 32 nd' = _
  rw [cX_so, cX_si, cX_sl]
theorem cX_id {h : mj_H} {m : mS} {nd : Nat → Int64} (h1 : h.1 5 4 = some (oMch m)) (h2 : h.2.1 5 = some (16, m.1)) (h3 : h.2.2.1 6 = some (32, nd)) : cX h m nd = h := by
  unfold cX
  rw [so_id h1, si_id h2, sl_id h3]
/-- a program, as the class has it -/
def cPr (h : mj_H) (p : Nat) (P : mP) (n : Nat) : Prop := n ≤ 24 ∧ P.2.2.2.2 = nI n ∧ ∃ l f, h.1 8 p = some (oPrg l (nI n)) ∧ h.2.2.2 4 l = some (24, f) ∧ ∀ j, j < n → ∃ i, f j = some i ∧ h.1 4 i = some (oIns (P.1 j) (P.2.1 j) (P.2.2.1 j) (P.2.2.2.1 j))
theorem cPr.x {h : mj_H} {p : Nat} {P : mP} {n : Nat} (hp : cPr h p P n) (m : mS) (nd : Nat → Int64) : cPr (cX h m nd) p P n := hp
def m_op (P : mP) : Prop := ∀ k, op8 (P.1 k) ∨ P.1 k = 9
section CM
variable {Q : mj_post} {g h : mj_H} {nx : Nat} {nd : Nat → Int64}
theorem cX_fi {m : mS} {fa : Nat} {F : Nat → Int32} (hf : h.2.1 fa = some (4, F)) (h5 : fa ≠ 5) : (cX h m nd).2.1 fa = some (4, F) := (si_ne (h := mj_so h 5 4 (oMch m)) (n := 16) (f := m.1) h5).trans hf
set_option maxRecDepth 20000 in
set_option maxHeartbeats 4000000 in
theorem cl_begin {fa : Nat} {F : Nat → Int32} (hf : h.2.1 fa = some (4, F)) (h5 : fa ≠ 5) (pd : Int32 × Int32) (k : ∀ f : Nat → Int32, (∀ j, j < 16 → f j = if j < 4 then F j else 0) → mj_W me_Machine_begin 33 [(0, .ref 4), (1, .ref fa), (2, .int (nI 16))] [] (cX h (f, pd) nd) g nx 0 0 Q) : ∀ (d i : Nat) (f : Nat → Int32), i + d = 16 → (∀ j, j < i → f j = if j < 4 then F j else 0) → mj_W me_Machine_begin 2 [(0, .ref 4), (1, .ref fa), (2, .int (nI i))] [] (cX h (f, pd) nd) g nx 0 0 Q := by
  intro d
  induction d with
  | zero =>
    intro i f hi hf2
    have e : i = 16 := by omega
    subst e
    iterate 2 (refine mj_r_pure rfl rfl ?_)
    refine mj_r_icmp_ge rfl (fun c1 => ?_) (fun c1 => absurd c1 (fun q => q (nI_le (Nat.le_refl 16) (by omega))))
    exact k f hf2
  | succ d ih =>
    intro i f hi hf2
    by_cases h4 : i < 4
    · iterate 2 (refine mj_r_pure rfl rfl ?_)
      refine mj_r_icmp_ge rfl (fun c1 => absurd c1 (nI_ge (a := i) (b := 16) (by omega) (by omega))) (fun c1 => ?_)
      refine mj_r_pure rfl rfl ?_
      refine mj_r_getf rfl rfl rfl rfl ?_
      iterate 3 (refine mj_r_pure rfl rfl ?_)
      refine mj_r_alenI rfl (cX_fi hf h5) rfl ?_
      refine mj_r_icmp_ge rfl (fun c2 => absurd c2 (nI_ge (a := i) (b := 4) (by omega) (by omega))) (fun c2 => ?_)
      iterate 2 (refine mj_r_pure rfl rfl ?_)
      refine cx_iald rfl (cX_fi hf h5) (by first | rfl | assumption) (by omega) ?_
      refine mj_r_pure rfl rfl ?_
      refine cx_iast rfl rfl (by first | rfl | assumption) (by omega) ?_
      iterate 2 (refine mj_r_pure rfl rfl ?_)
      rw [nI_1, cX_si]; exact ih (i + 1) _ (by omega) (fun j hj => by by_cases e : j = i; (subst e; rw [pk_us, if_pos h4]); (rw [pk_un e]; exact hf2 j (by omega)))
    · iterate 2 (refine mj_r_pure rfl rfl ?_)
      refine mj_r_icmp_ge rfl (fun c1 => absurd c1 (nI_ge (a := i) (b := 16) (by omega) (by omega))) (fun c1 => ?_)
      refine mj_r_pure rfl rfl ?_
      refine mj_r_getf rfl rfl rfl rfl ?_
      iterate 3 (refine mj_r_pure rfl rfl ?_)
      refine mj_r_alenI rfl (cX_fi hf h5) rfl ?_
      refine mj_r_icmp_ge rfl (fun c2 => ?_) (fun c2 => absurd c2 (fun q => q (nI_le (a := 4) (b := i) (by omega) (by omega))))
      refine mj_r_pure rfl rfl ?_
      refine cx_iast rfl rfl (by first | rfl | assumption) (by omega) ?_
      iterate 2 (refine mj_r_pure rfl rfl ?_)
      rw [nI_1, cX_si]; exact ih (i + 1) _ (by omega) (fun j hj => by by_cases e : j = i; (subst e; rw [pk_us, if_neg h4]); (rw [pk_un e]; exact hf2 j (by omega)))
end CM
set_option maxRecDepth 20000 in
set_option maxHeartbeats 4000000 in
theorem K_Machine_begin (h : mj_H) (nx fa : Nat) (m : mS) (nd : Nat → Int64) (F : Nat → Int32) (hf : h.2.1 fa = some (4, F)) (h5 : fa ≠ 5) : mj_K me_Machine_begin [.ref 4, .ref fa] (cX h m nd) nx 0 0 (fun r h' nx' => r = none ∧ nx = nx' ∧ ∃ m', h' = cX h m' nd ∧ m_ag m' (m_0 F)) := by
  refine mj_K.of ok_Machine_begin ck_Machine_begin (Nat.le_of_ble_eq_true rfl) ?_
  iterate 2 (refine mj_r_pure rfl rfl ?_)
  refine cl_begin (pd := m.2) hf h5 (fun f hf2 => ?_) 16 0 m.1 rfl (fun j hj => absurd hj (by omega))
  iterate 2 (refine mj_r_pure rfl rfl ?_)
  refine mj_r_putf rfl rfl rfl rfl (Or.inl rfl) rfl rfl ?_
  rw [cX_so]
  iterate 2 (refine mj_r_pure rfl rfl ?_)
  refine mj_r_putf rfl rfl rfl rfl (Or.inl rfl) rfl rfl ?_
  exact mj_r_ret rfl rfl ⟨rfl, rfl, _, cX_so _ _ _ _ _, ⟨hf2, rfl, rfl⟩⟩
set_option maxRecDepth 20000 in
set_option maxHeartbeats 4000000 in
theorem K_Machine_doStep (h : mj_H) (nx i j : Nat) (m : mS) (nd : Nat → Int64) (P : mP) (hP : m_ok P) (hop : m_op P) (ho : h.1 4 i = some (oIns (P.1 j) (P.2.1 j) (P.2.2.1 j) (P.2.2.2.1 j))) : cK me_Machine_doStep [.ref 4, .ref i] (cX h m nd) nx none (cX h (m_cell P m.1 j, m_bh P m.1 j m.2.1, m.2.2 + 1) nd) := by
  refine mj_K.of ok_Machine_doStep ck_Machine_doStep (Nat.le_of_ble_eq_true rfl) ?_
  obtain ⟨a, ha, ha2⟩ := hP.1 j
  obtain ⟨b, hb, hb2⟩ := hP.2 j
  have hop1 := hop j
  unfold m_cell m_wr m_val m_bh m_va m_vb
  rw [ha2, hb2] at ho
  rw [ha2, hb2, nI_clamp (by omega), nI_clamp (by omega)]
  generalize P.1 j = op at ho hop1 ⊢
  generalize P.2.2.2.1 j = c at ho ⊢
  obtain ⟨t, ht, ht2⟩ : ∃ t : Nat, t < 16 ∧ sp_told op (nI a) (m.1 a) (m.1 b) = nI t := by
    unfold sp_told
    split
    · exact sp_m15 _
    · split
      · exact sp_m15 _
      · exact ⟨a, ha, rfl⟩
  have ev : ¬ op = 9 → sp_val op (m.1 a) (m.1 b) c (m.1 t) = sp_val op (m.1 a) (m.1 b) c (m.1 (m.1 b &&& 15).toNatClampNeg) := fun _ => by
    by_cases h7 : op = 7
    · have : m.1 b &&& 15 = nI t := by rw [← ht2, sp_told, if_pos h7]
      rw [this, nI_clamp (by omega)]
    · exact sp_val_t h7
  refine mj_r_pure rfl rfl ?_
  refine mj_r_getf rfl rfl rfl rfl ?_
  refine mj_r_pure rfl rfl ?_
  refine mj_r_getf rfl rfl ho rfl ?_
  refine cx_iald rfl rfl (by first | rfl | assumption) (by omega) ?_
  iterate 2 (refine mj_r_pure rfl rfl ?_)
  refine mj_r_getf rfl rfl rfl rfl ?_
  refine mj_r_pure rfl rfl ?_
  refine mj_r_getf rfl rfl ho rfl ?_
  refine cx_iald rfl rfl (by first | rfl | assumption) (by omega) ?_
  iterate 4 (refine mj_r_pure rfl rfl ?_)
  refine mj_r_cV0 (ci := 4)  rfl li_Machine_57 ck_Instruction_toldCell iv_Instruction_toldCell (by decide) (K_Instruction_toldCell (cX h m nd) i nx op (nI a) (nI b) c _ _ ho) rfl rfl (Nat.le_of_ble_eq_true rfl) rfl ho ?_
  rintro _ _ _ ⟨rfl, rfl, rfl⟩ _
  rw [ht2]
  iterate 2 (refine mj_r_pure rfl rfl ?_)
  refine mj_r_cV0 (ci := 4)  rfl li_Machine_61 ck_Instruction_writes iv_Instruction_writes (by decide) (K_Instruction_writes (cX h m nd) i nx op (nI a) (nI b) c ho) rfl rfl (Nat.le_of_ble_eq_true rfl) rfl ho ?_
  rintro _ _ _ ⟨rfl, rfl, rfl⟩ _
  refine mj_r_if_eq rfl (fun c1 => ?_) (fun c1 => ?_)
  · have c9 : op = 9 := Decidable.of_not_not (bI_0.mp c1)
    iterate 3 (refine mj_r_pure rfl rfl ?_)
    refine mj_r_getf rfl rfl rfl rfl ?_
    refine mj_r_pure rfl rfl ?_
    refine mj_r_cV0 (ci := 4)  rfl li_Machine_72 ck_Instruction_placeBehind iv_Instruction_placeBehind (by decide) (K_Instruction_placeBehind (cX h _ nd) i nx op (nI a) (nI b) c _ _ ho) rfl rfl (Nat.le_of_ble_eq_true rfl) rfl ho ?_
    rintro _ _ _ ⟨rfl, rfl, rfl⟩ _
    refine mj_r_putf rfl rfl rfl rfl (Or.inl rfl) rfl rfl ?_
    rw [cX_so]
    iterate 2 (refine mj_r_pure rfl rfl ?_)
    refine mj_r_getf rfl rfl rfl rfl ?_
    iterate 2 (refine mj_r_pure rfl rfl ?_)
    refine mj_r_putf rfl rfl rfl rfl (Or.inl rfl) rfl rfl ?_
    exact mj_r_ret rfl rfl ⟨rfl, by refine (cX_so _ _ _ _ _).trans ?_; rw [if_pos c9, if_neg m1_neg], rfl⟩
  · refine mj_r_pure rfl rfl ?_
    refine mj_r_getf rfl rfl ho rfl ?_
    refine mj_r_pure rfl rfl ?_
    refine mj_r_icmp_ne rfl (fun c2 => ?_) (fun c2 => ?_)
    · refine mj_r_pure rfl rfl ?_
      refine mj_r_getf rfl rfl ho rfl ?_
      iterate 2 (refine mj_r_pure rfl rfl ?_)
      refine mj_r_getf rfl rfl rfl rfl ?_
      iterate 5 (refine mj_r_pure rfl rfl ?_)
      refine mj_r_getf rfl rfl rfl rfl ?_
      refine mj_r_pure rfl rfl ?_
      refine cx_iald rfl rfl (by first | rfl | assumption) (by omega) ?_
      refine mj_r_cV0 (ci := 4)  rfl li_Machine_68 ck_Instruction_result iv_Instruction_result (by decide) (K_Instruction_result (cX h m nd) i nx op (nI a) (nI b) c _ _ _ ho (hop1.resolve_right (fun q => absurd c1 (by rw [bI_f (fun z => z q)]; decide)))) rfl rfl (Nat.le_of_ble_eq_true rfl) rfl ho ?_
      rintro _ _ _ ⟨rfl, rfl, rfl⟩ _
      refine cx_iast rfl rfl (by first | rfl | assumption) (by omega) ?_
      rw [cX_si]
      have c9 : ¬ op = 9 := fun q => absurd c1 (by rw [bI_f (fun z => z q)]; decide)
      iterate 3 (refine mj_r_pure rfl rfl ?_)
      refine mj_r_getf rfl rfl rfl rfl ?_
      refine mj_r_pure rfl rfl ?_
      refine mj_r_cV0 (ci := 4)  rfl li_Machine_72 ck_Instruction_placeBehind iv_Instruction_placeBehind (by decide) (K_Instruction_placeBehind (cX h _ nd) i nx op (nI a) (nI b) c _ _ ho) rfl rfl (Nat.le_of_ble_eq_true rfl) rfl ho ?_
      rintro _ _ _ ⟨rfl, rfl, rfl⟩ _
      refine mj_r_putf rfl rfl rfl rfl (Or.inl rfl) rfl rfl ?_
      rw [cX_so]
      iterate 2 (refine mj_r_pure rfl rfl ?_)
      refine mj_r_getf rfl rfl rfl rfl ?_
      iterate 2 (refine mj_r_pure rfl rfl ?_)
      refine mj_r_putf rfl rfl rfl rfl (Or.inl rfl) rfl rfl ?_
      exact mj_r_ret rfl rfl ⟨rfl, by refine (cX_so _ _ _ _ _).trans ?_; rw [if_neg c9, if_neg c2, if_pos (nI_pos' (by omega)), nI_clamp (by omega), ev c9], rfl⟩
    · iterate 4 (refine mj_r_pure rfl rfl ?_)
      refine mj_r_getf rfl rfl rfl rfl ?_
      iterate 5 (refine mj_r_pure rfl rfl ?_)
      refine mj_r_getf rfl rfl rfl rfl ?_
      refine mj_r_pure rfl rfl ?_
      refine cx_iald rfl rfl (by first | rfl | assumption) (by omega) ?_
      refine mj_r_cV0 (ci := 4)  rfl li_Machine_68 ck_Instruction_result iv_Instruction_result (by decide) (K_Instruction_result (cX h m nd) i nx op (nI a) (nI b) c _ _ _ ho (hop1.resolve_right (fun q => absurd c1 (by rw [bI_f (fun z => z q)]; decide)))) rfl rfl (Nat.le_of_ble_eq_true rfl) rfl ho ?_
      rintro _ _ _ ⟨rfl, rfl, rfl⟩ _
      refine cx_iast rfl rfl (show nI t = nI t from rfl) (by omega) ?_
      rw [cX_si]
      have c9 : ¬ op = 9 := fun q => absurd c1 (by rw [bI_f (fun z => z q)]; decide)
      iterate 3 (refine mj_r_pure rfl rfl ?_)
      refine mj_r_getf rfl rfl rfl rfl ?_
      refine mj_r_pure rfl rfl ?_
      refine mj_r_cV0 (ci := 4)  rfl li_Machine_72 ck_Instruction_placeBehind iv_Instruction_placeBehind (by decide) (K_Instruction_placeBehind (cX h _ nd) i nx op (nI a) (nI b) c _ _ ho) rfl rfl (Nat.le_of_ble_eq_true rfl) rfl ho ?_
      rintro _ _ _ ⟨rfl, rfl, rfl⟩ _
      refine mj_r_putf rfl rfl rfl rfl (Or.inl rfl) rfl rfl ?_
      rw [cX_so]
      iterate 2 (refine mj_r_pure rfl rfl ?_)
      refine mj_r_getf rfl rfl rfl rfl ?_
      iterate 2 (refine mj_r_pure rfl rfl ?_)
      refine mj_r_putf rfl rfl rfl rfl (Or.inl rfl) rfl rfl ?_
      exact mj_r_ret rfl rfl ⟨rfl, by refine (cX_so _ _ _ _ _).trans ?_; rw [if_neg c9, if_pos c2, show m.1 a &&& 15 = nI t by rw [← ht2, sp_told, if_neg (fun q => absurd (q.symm.trans c2) (by decide)), if_pos c2], if_pos (nI_pos' (by omega)), nI_clamp (by omega), ev c9], rfl⟩
