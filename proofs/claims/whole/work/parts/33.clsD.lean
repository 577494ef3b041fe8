/-! the class: the machine's run and tree -/
theorem m_run_add (P : mP) (m : mS) (i d : Nat) : m_run P m (i + d) = m_run P (m_run P m i) d := by
  induction d with
  | zero => rfl
  | succ d ih => show m_step P (m_run P m (i + d)) = m_step P (m_run P (m_run P m i) d); rw [ih]
section CR
variable {Q : mj_post} {g h : mj_H} {nx : Nat} {nd : Nat → Int64}
set_option maxRecDepth 20000 in
set_option maxHeartbeats 4000000 in
theorem cl_run {b p fa n N : Nat} {s : Int32} {P : mP} {m0 : mS} (hb : h.1 0 b = some (oBat p s fa)) (hp : cPr h p P n) (hP : m_ok P) (hop : m_op P) (hN : N < 2 ^ 31) (k : ∀ m : mS, m_ag m (m_run P m0 N) → Q.2 none (cX h m nd) g nx) : ∀ (d i : Nat) (m : mS) (lv : List (Nat × Value)), i + d = N → m_ag m (m_run P m0 i) → mj_pk lv [0, 1, 2, 3] = some [(0, .ref 4), (1, .ref b), (2, .int (nI N)), (3, .int (nI i))] → mj_W me_Machine_run 10 lv [] (cX h m nd) g nx 0 0 Q := by
  obtain ⟨hn, hlen, l, f, h1, h2, h3⟩ := id hp
  intro d
  induction d with
  | zero =>
    intro i m lv hi hm hlv
    have e : i = N := by omega
    subst e
    refine mj_W.fewer _ hlv ?_
    iterate 2 (refine mj_r_pure rfl rfl ?_)
    refine mj_r_icmp_ge rfl (fun c1 => ?_) (fun c1 => absurd c1 (fun q => q (nI_le (Nat.le_refl _) hN)))
    exact mj_r_ret rfl rfl ((k m hm))
  | succ d ih =>
    intro i m lv hi hm hlv
    refine mj_W.fewer _ hlv ?_
    by_cases c : isN m.2.1 P.2.2.2.2
    · obtain ⟨j, hj, hj2⟩ := isN_nat (n := n) (by omega) (by rw [← hlen]; exact c)
      obtain ⟨io, h4, h5⟩ := h3 j hj
      have es : (m_cell P m.1 j, m_bh P m.1 j m.2.1, m.2.2 + 1) = m_step P m := by
        rw [m_step, if_pos c, hj2, nI_clamp (by omega)]
      iterate 2 (refine mj_r_pure rfl rfl ?_)
      refine mj_r_icmp_ge rfl (fun c1 => absurd c1 (nI_ge (by omega) hN)) (fun c1 => ?_)
      refine mj_r_pure rfl rfl ?_
      refine mj_r_getf rfl rfl hb rfl ?_
      refine mj_r_pure rfl rfl ?_
      refine mj_r_getf rfl rfl rfl rfl ?_
      change mj_W _ _ _ [.int m.2.1, .ref p] _ _ _ _ _ _
      rw [hj2]
      refine mj_r_cV0 (ci := 8)  rfl li_Machine_39 ck_Program_lineAt iv_Program_lineAt (by decide) ((K_Program_lineAt_t (cX h m nd) p l n j io nx f h1 h2 hn hj h4)) rfl rfl (Nat.le_of_ble_eq_true rfl) rfl (show (cX h m nd).1 8 p = some _ from h1) ?_
      rintro _ _ _ ⟨rfl, rfl, rfl⟩ _
      iterate 2 (refine mj_r_pure rfl rfl ?_)
      refine mj_r_pure rfl rfl ?_
      iterate 2 (refine mj_r_pure rfl rfl ?_)
      refine mj_r_cV0 (ci := 5)  rfl li_Machine_45 ck_Machine_doStep iv_Machine_doStep (by decide) (K_Machine_doStep h nx io j m nd P hP hop h5) rfl rfl (Nat.le_of_ble_eq_true rfl) rfl rfl ?_
      rintro _ _ _ ⟨rfl, rfl, rfl⟩ _
      rw [es]
      iterate 2 (refine mj_r_pure rfl rfl ?_)
      rw [nI_1]; exact ih (i + 1) _ _ (by omega) (m_step_ag hP hm) rfl
    · have ce : ¬ isN (m_run P m0 i).2.1 P.2.2.2.2 := by rw [← hm.2.1]; exact c
      have es : m_run P m0 N = m_run P m0 i := by rw [← hi, m_run_add, m_run_still ce]
      iterate 2 (refine mj_r_pure rfl rfl ?_)
      refine mj_r_icmp_ge rfl (fun c1 => absurd c1 (nI_ge (by omega) hN)) (fun c1 => ?_)
      refine mj_r_pure rfl rfl ?_
      refine mj_r_getf rfl rfl hb rfl ?_
      refine mj_r_pure rfl rfl ?_
      refine mj_r_getf rfl rfl rfl rfl ?_
      refine mj_r_cV0 (ci := 8)  rfl li_Machine_39 ck_Program_lineAt iv_Program_lineAt (by decide) ((K_Program_lineAt_f (cX h m nd) p l n nx f m.2.1 h1 hn (by rw [← hlen]; exact c))) rfl rfl (Nat.le_of_ble_eq_true rfl) rfl (show (cX h m nd).1 8 p = some _ from h1) ?_
      rintro _ _ _ ⟨rfl, rfl, rfl⟩ _
      iterate 2 (refine mj_r_pure rfl rfl ?_)
      refine mj_r_pure rfl rfl ?_
      exact mj_r_ret rfl rfl ((k m (by rw [es]; exact hm)))
end CR
set_option maxRecDepth 20000 in
set_option maxHeartbeats 4000000 in
theorem K_Machine_run (h : mj_H) (nx b p fa n N : Nat) (s : Int32) (P : mP) (F : Nat → Int32) (m : mS) (nd : Nat → Int64) (hb : h.1 0 b = some (oBat p s fa)) (hf : h.2.1 fa = some (4, F)) (h5 : fa ≠ 5) (hp : cPr h p P n) (hP : m_ok P) (hop : m_op P) (hN : N < 2 ^ 31) : mj_K me_Machine_run [.ref 4, .ref b, .int (nI N)] (cX h m nd) nx 0 0 (fun r h' nx' => r = none ∧ nx = nx' ∧ ∃ m', h' = cX h m' nd ∧ m_ag m' (m_run P (m_0 F) N)) := by
  refine mj_K.of ok_Machine_run ck_Machine_run (Nat.le_of_ble_eq_true rfl) ?_
  iterate 2 (refine mj_r_pure rfl rfl ?_)
  refine mj_r_getf rfl rfl hb rfl ?_
  refine mj_r_cV0 (ci := 5)  rfl li_Machine_31 ck_Machine_begin iv_Machine_begin (by decide) (K_Machine_begin h nx fa m nd F hf h5) rfl rfl (Nat.le_of_ble_eq_true rfl) rfl rfl ?_
  rintro _ _ _ ⟨rfl, rfl, m1, rfl, hm1⟩ _
  iterate 2 (refine mj_r_pure rfl rfl ?_)
  refine cl_run hb hp hP hop hN (fun m hm => ?_) N 0 m1 _ (by omega) hm1 rfl
  exact ⟨rfl, rfl, m, rfl, hm⟩
section CT
variable {Q : mj_post} {g h : mj_H} {nx : Nat}
set_option maxRecDepth 20000 in
set_option maxHeartbeats 4000000 in
theorem cl_tree1 {m : mS} (k : ∀ nd : Nat → Int64, (∀ j, j < 16 → nd (16 + j) = t_leaf m.1 j) → mj_W me_Machine_growTree 35 [(0, .ref 4), (1, .int (nI 16))] [] (cX h m nd) g nx 0 0 Q) : ∀ (d i : Nat) (nd : Nat → Int64), i + d = 16 → (∀ j, j < i → nd (16 + j) = t_leaf m.1 j) → mj_W me_Machine_growTree 2 [(0, .ref 4), (1, .int (nI i))] [] (cX h m nd) g nx 0 0 Q := by
  intro d
  induction d with
  | zero =>
    intro i nd hi hf
    have e : i = 16 := by omega
    subst e
    iterate 2 (refine mj_r_pure rfl rfl ?_)
    refine mj_r_icmp_ge rfl (fun c1 => ?_) (fun c1 => absurd c1 (fun q => q (nI_le (Nat.le_refl 16) (by omega))))
    exact k nd hf
  | succ d ih =>
    intro i nd hi hf
    iterate 2 (refine mj_r_pure rfl rfl ?_)
    refine mj_r_icmp_ge rfl (fun c1 => absurd c1 (nI_ge (a := i) (b := 16) (by omega) (by omega))) (fun c1 => ?_)
    refine mj_r_pure rfl rfl ?_
    refine mj_r_getf rfl rfl rfl rfl ?_
    iterate 6 (refine mj_r_pure rfl rfl ?_)
    refine mj_r_getf rfl rfl rfl rfl ?_
    refine mj_r_pure rfl rfl ?_
    refine cx_iald rfl rfl (by first | rfl | assumption) (by omega) ?_
    refine mj_r_pure rfl rfl ?_
    refine mj_r_callSN (kc := 0) (ks := 0) rfl li_Machine_75 ck_Top_mix iv_Top_mix (by decide) (K_Top_mix _ _ _ nx) rfl rfl (Nat.le_of_ble_eq_true rfl) ?_
    rintro _ _ _ ⟨rfl, rfl, rfl⟩ _
    refine cx_last rfl rfl (ix_add (x := 16) rfl rfl) (by omega) ?_
    iterate 2 (refine mj_r_pure rfl rfl ?_)
    rw [nI_1, cX_sl]; exact ih (i + 1) _ (by omega) (fun j hj => by by_cases e : j = i; (subst e; rw [pk_uLs, nI_l (by omega)]; rfl); (rw [pk_uLn (by omega)]; exact hf j (by omega)))
set_option maxRecDepth 20000 in
set_option maxHeartbeats 4000000 in
theorem cl_tree2 {m : mS} (k : ∀ nd : Nat → Int64, (∀ j, 1 ≤ j → j < 32 → nd j = t_n m.1 j) → Q.2 none (cX h m nd) g nx) : ∀ (i : Nat) (nd : Nat → Int64), i < 16 → (∀ j, i < j → j < 32 → nd j = t_n m.1 j) → mj_W me_Machine_growTree 38 [(0, .ref 4), (1, .int (nI i))] [] (cX h m nd) g nx 0 0 Q := by
  intro i
  induction i with
  | zero =>
    intro nd hi hf
    iterate 2 (refine mj_r_pure rfl rfl ?_)
    refine mj_r_icmp_lt rfl (fun c1 => ?_) (fun c1 => absurd c1 (fun q => q (nI_lt (a := 0) (b := 1) (by omega) (by omega))))
    exact mj_r_ret rfl rfl ((k nd (fun j h1 h2 => hf j (by omega) h2)))
  | succ i ih =>
    intro nd hi hf
    iterate 2 (refine mj_r_pure rfl rfl ?_)
    refine mj_r_icmp_lt rfl (fun c1 => absurd c1 (nI_nlt (a := i + 1) (b := 1) (by omega) (by omega))) (fun c1 => ?_)
    refine mj_r_pure rfl rfl ?_
    refine mj_r_getf rfl rfl rfl rfl ?_
    iterate 2 (refine mj_r_pure rfl rfl ?_)
    refine mj_r_getf rfl rfl rfl rfl ?_
    iterate 3 (refine mj_r_pure rfl rfl ?_)
    refine cx_lald rfl rfl (ix_mul (x := 2) rfl rfl) (by omega) ?_
    refine mj_r_pure rfl rfl ?_
    refine mj_r_getf rfl rfl rfl rfl ?_
    iterate 5 (refine mj_r_pure rfl rfl ?_)
    refine cx_lald rfl rfl (ix_add (y := 1) (ix_mul (x := 2) rfl rfl) rfl) (by omega) ?_
    refine mj_r_callSN (kc := 0) (ks := 0) rfl li_Machine_75 ck_Top_mix iv_Top_mix (by decide) (K_Top_mix _ _ _ nx) rfl rfl (Nat.le_of_ble_eq_true rfl) ?_
    rintro _ _ _ ⟨rfl, rfl, rfl⟩ _
    refine cx_last rfl rfl (by first | rfl | assumption) (by omega) ?_
    iterate 2 (refine mj_r_pure rfl rfl ?_)
    rw [pk_m1, cX_sl]; exact ih _ (by omega) (fun j h1 h2 => by by_cases e : j = i + 1; (subst e; rw [pk_uLs, t_n_up _ (by omega) (by omega), ← hf (2 * (i + 1)) (by omega) (by omega), ← hf (2 * (i + 1) + 1) (by omega) (by omega)]); (rw [pk_uLn e]; exact hf j (by omega) h2))
end CT
set_option maxRecDepth 20000 in
set_option maxHeartbeats 4000000 in
theorem K_Machine_growTree (h : mj_H) (nx : Nat) (m : mS) (nd : Nat → Int64) : mj_K me_Machine_growTree [.ref 4] (cX h m nd) nx 0 0 (fun r h' nx' => r = none ∧ nx = nx' ∧ ∃ nd', h' = cX h m nd' ∧ ∀ j, 1 ≤ j → j < 32 → nd' j = t_n m.1 j) := by
  refine mj_K.of ok_Machine_growTree ck_Machine_growTree (Nat.le_of_ble_eq_true rfl) ?_
  iterate 2 (refine mj_r_pure rfl rfl ?_)
  refine cl_tree1 (fun nd1 hnd1 => ?_) 16 0 nd rfl (fun j hj => absurd hj (by omega))
  iterate 2 (refine mj_r_pure rfl rfl ?_)
  refine cl_tree2 (fun nd2 h2 => ?_) 15 nd1 (by omega) (fun j h1 h2 => by rw [t_n_leaf _ (by omega), ← hnd1 (j - 16) (by omega), show 16 + (j - 16) = j by omega])
  exact ⟨rfl, rfl, nd2, rfl, h2⟩
set_option maxRecDepth 20000 in
set_option maxHeartbeats 4000000 in
theorem K_Machine_digestOfTree (h : mj_H) (nx : Nat) (m : mS) (nd : Nat → Int64) : mj_K me_Machine_digestOfTree [.ref 4] (cX h m nd) nx 0 0 (fun r h' nx' => r = some (.long (m_dig m)) ∧ nx = nx' ∧ ∃ nd', h' = cX h m nd') := by
  refine mj_K.of ok_Machine_digestOfTree ck_Machine_digestOfTree (Nat.le_of_ble_eq_true rfl) ?_
  refine mj_r_pure rfl rfl ?_
  refine mj_r_cV0 (ci := 5)  rfl li_Machine_79 ck_Machine_growTree iv_Machine_growTree (by decide) (K_Machine_growTree h nx m nd) rfl rfl (Nat.le_of_ble_eq_true rfl) rfl rfl ?_
  rintro _ _ _ ⟨rfl, rfl, nd1, rfl, hnd1⟩ _
  refine mj_r_pure rfl rfl ?_
  refine mj_r_getf rfl rfl rfl rfl ?_
  refine mj_r_pure rfl rfl ?_
  refine cx_lald rfl rfl (show (1 : Int32) = nI 1 from rfl) (by omega) ?_
  refine mj_r_pure rfl rfl ?_
  refine mj_r_getf rfl rfl rfl rfl ?_
  refine mj_r_pure rfl rfl ?_
  refine mj_r_callSN (kc := 0) (ks := 0) rfl li_Machine_75 ck_Top_mix iv_Top_mix (by decide) (K_Top_mix _ _ _ nx) rfl rfl (Nat.le_of_ble_eq_true rfl) ?_
  rintro _ _ _ ⟨rfl, rfl, rfl⟩ _
  exact mj_r_lret rfl rfl ⟨by show some (Value.long (sp_mix (nd1 1) m.2.1.toInt64)) = _; rw [hnd1 1 (by omega) (by omega)]; rfl, rfl, nd1, rfl⟩
def m_mask (P : mP) (f : Nat → Int32) (k : Nat) : Int32 :=
  if ¬ P.1 k = 0 ∧ ¬ P.1 k = 5 ∧ ¬ P.1 k = 9 then (1 <<< (P.2.1 k &&& 31) ||| 1 <<< (sp_told (P.1 k) (P.2.1 k) (m_va P f k) (m_vb P f k) &&& 31)) ||| 1 <<< (P.2.2.1 k &&& 31)
  else 1 <<< (P.2.1 k &&& 31) ||| 1 <<< (sp_told (P.1 k) (P.2.1 k) (m_va P f k) (m_vb P f k) &&& 31)
set_option maxRecDepth 20000 in
set_option maxHeartbeats 4000000 in
theorem K_Machine_asked_t (h : mj_H) (nx p n j : Nat) (P : mP) (m : mS) (nd : Nat → Int64) (hp : cPr h p P n) (hP : m_ok P) (hj : j < n) (hj2 : m.2.1 = nI j) : cK me_Machine_askedCells [.ref 4, .ref p] (cX h m nd) nx (some (.int (m_mask P m.1 j))) (cX h m nd) := by
  refine mj_K.of ok_Machine_askedCells ck_Machine_askedCells (Nat.le_of_ble_eq_true rfl) ?_
  obtain ⟨hn, hlen, l, f, h1, h2, h3⟩ := id hp
  obtain ⟨io, h4, ho⟩ := h3 j hj
  obtain ⟨a, ha, ha2⟩ := hP.1 j
  obtain ⟨b, hb, hb2⟩ := hP.2 j
  unfold m_mask m_va m_vb
  rw [ha2, hb2] at ho
  rw [ha2, hb2, nI_clamp (by omega), nI_clamp (by omega)]
  generalize P.1 j = op at ho ⊢
  generalize P.2.2.2.1 j = c at ho ⊢
  iterate 2 (refine mj_r_pure rfl rfl ?_)
  refine mj_r_getf rfl rfl rfl rfl ?_
  change mj_W _ _ _ [.int m.2.1, .ref p] _ _ _ _ _ _
  rw [hj2]
  refine mj_r_cV0 (ci := 8)  rfl li_Machine_39 ck_Program_lineAt iv_Program_lineAt (by decide) ((K_Program_lineAt_t (cX h m nd) p l n j io nx f h1 h2 hn hj h4)) rfl rfl (Nat.le_of_ble_eq_true rfl) rfl (show (cX h m nd).1 8 p = some _ from h1) ?_
  rintro _ _ _ ⟨rfl, rfl, rfl⟩ _
  iterate 2 (refine mj_r_pure rfl rfl ?_)
  refine mj_r_pure rfl rfl ?_
  iterate 2 (refine mj_r_pure rfl rfl ?_)
  refine mj_r_getf rfl rfl ho rfl ?_
  iterate 4 (refine mj_r_pure rfl rfl ?_)
  refine mj_r_getf rfl rfl rfl rfl ?_
  refine mj_r_pure rfl rfl ?_
  refine mj_r_getf rfl rfl ho rfl ?_
  refine cx_iald rfl rfl (by first | rfl | assumption) (by omega) ?_
  refine mj_r_pure rfl rfl ?_
  refine mj_r_getf rfl rfl rfl rfl ?_
  refine mj_r_pure rfl rfl ?_
  refine mj_r_getf rfl rfl ho rfl ?_
  refine cx_iald rfl rfl (by first | rfl | assumption) (by omega) ?_
  refine mj_r_cV0 (ci := 4)  rfl li_Machine_57 ck_Instruction_toldCell iv_Instruction_toldCell (by decide) (K_Instruction_toldCell (cX h m nd) io nx op (nI a) (nI b) c _ _ ho) rfl rfl (Nat.le_of_ble_eq_true rfl) rfl ho ?_
  rintro _ _ _ ⟨rfl, rfl, rfl⟩ _
  iterate 4 (refine mj_r_pure rfl rfl ?_)
  refine mj_r_cV0 (ci := 4)  rfl li_Machine_82 ck_Instruction_asksForB iv_Instruction_asksForB (by decide) (K_Instruction_asksForB (cX h m nd) io nx op (nI a) (nI b) c ho) rfl rfl (Nat.le_of_ble_eq_true rfl) rfl ho ?_
  rintro _ _ _ ⟨rfl, rfl, rfl⟩ _
  refine mj_r_if_eq rfl (fun c1 => ?_) (fun c1 => ?_)
  · refine mj_r_pure rfl rfl ?_
    exact mj_r_iret rfl rfl rfl ⟨by rw [if_neg (bI_0.mp c1)], rfl, rfl⟩
  · iterate 3 (refine mj_r_pure rfl rfl ?_)
    refine mj_r_getf rfl rfl ho rfl ?_
    iterate 3 (refine mj_r_pure rfl rfl ?_)
    exact mj_r_iret rfl rfl rfl ⟨by rw [if_pos (Decidable.of_not_not (fun q => c1 (bI_f q)))], rfl, rfl⟩
set_option maxRecDepth 20000 in
set_option maxHeartbeats 4000000 in
theorem K_Machine_asked_f (h : mj_H) (nx p n : Nat) (P : mP) (m : mS) (nd : Nat → Int64) (hp : cPr h p P n) (c : ¬ isN m.2.1 P.2.2.2.2) : cK me_Machine_askedCells [.ref 4, .ref p] (cX h m nd) nx (some (.int 0)) (cX h m nd) := by
  refine mj_K.of ok_Machine_askedCells ck_Machine_askedCells (Nat.le_of_ble_eq_true rfl) ?_
  obtain ⟨hn, hlen, l, f, h1, h2, h3⟩ := id hp
  iterate 2 (refine mj_r_pure rfl rfl ?_)
  refine mj_r_getf rfl rfl rfl rfl ?_
  refine mj_r_cV0 (ci := 8)  rfl li_Machine_39 ck_Program_lineAt iv_Program_lineAt (by decide) ((K_Program_lineAt_f (cX h m nd) p l n nx f m.2.1 h1 hn (by rw [← hlen]; exact c))) rfl rfl (Nat.le_of_ble_eq_true rfl) rfl (show (cX h m nd).1 8 p = some _ from h1) ?_
  rintro _ _ _ ⟨rfl, rfl, rfl⟩ _
  iterate 2 (refine mj_r_pure rfl rfl ?_)
  refine mj_r_pure rfl rfl ?_
  refine mj_r_pure rfl rfl ?_
  exact mj_r_iret rfl rfl rfl ⟨rfl, rfl, rfl⟩
