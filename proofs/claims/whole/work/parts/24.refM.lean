/-! the reference: write -/
def m_ask (P : mP) (f : Nat → Int32) (k i : Nat) : Bool :=
  decide (nI i = P.2.1 k) || ((decide (¬ P.1 k = 0 ∧ ¬ P.1 k = 5 ∧ ¬ P.1 k = 9) && decide (nI i = P.2.2.1 k)) || ((decide (P.1 k = 7) && decide (nI i = m_vb P f k &&& 15)) || (decide (P.1 k = 8) && decide (nI i = m_va P f k &&& 15))))
def sp_w1 (f : Nat → Int32) (ask : Nat → Bool) (T : rf_S) (i : Nat) : rf_S :=
  if ask i = true ∧ ¬ T.1 36 0 = 4 then sp_cell1 T (T.1 36 0).toNatClampNeg (nI i) (f i) (t_n f ((16 + i) ^^^ 1)) (t_n f ((16 + i) / 2 ^^^ 1)) (t_n f ((16 + i) / 4 ^^^ 1)) (t_n f ((16 + i) / 8 ^^^ 1)) else T
def sp_wl (f : Nat → Int32) (ask : Nat → Bool) (T : rf_S) : Nat → rf_S
  | 0 => T
  | i + 1 => sp_w1 f ask (sp_wl f ask T i) i
def sp_write1 (S : rf_S) (b n : Nat) : rf_S :=
  if isN (sp_M S b n).2.1 (S.1 6 b) then sp_wl (sp_M S b n).1 (m_ask (sp_P S b) (sp_M S b n).1 (sp_M S b n).2.1.toNatClampNeg) (sp_paper S (sp_M S b n).2.1 (t_n (sp_M S b n).1 1)) 16 else sp_paper S (sp_M S b n).2.1 (t_n (sp_M S b n).1 1)
def sp_write (S : rf_S) (b s : Int32) : Int32 × rf_S :=
  if isN b (S.1 5 0) ∧ 0 ≤ s ∧ s < S.1 8 b.toNatClampNeg then ((sp_write1 S b.toNatClampNeg s.toNatClampNeg).1 36 0, sp_write1 S b.toNatClampNeg s.toNatClampNeg) else (-1, S)
theorem sib1 : ∀ i, i < 16 → nI (16 + i) ^^^ 1 = nI ((16 + i) ^^^ 1) := by decide +kernel
theorem sib2 : ∀ i, i < 16 → nI (16 + i) / 2 ^^^ 1 = nI ((16 + i) / 2 ^^^ 1) := by decide +kernel
theorem sib4 : ∀ i, i < 16 → nI (16 + i) / 4 ^^^ 1 = nI ((16 + i) / 4 ^^^ 1) := by decide +kernel
theorem sib8 : ∀ i, i < 16 → nI (16 + i) / 8 ^^^ 1 = nI ((16 + i) / 8 ^^^ 1) := by decide +kernel
theorem sibr : ∀ i, i < 16 → (1 ≤ (16 + i) ^^^ 1 ∧ (16 + i) ^^^ 1 < 32) ∧ (1 ≤ (16 + i) / 2 ^^^ 1 ∧ (16 + i) / 2 ^^^ 1 < 32) ∧ (1 ≤ (16 + i) / 4 ^^^ 1 ∧ (16 + i) / 4 ^^^ 1 < 32) ∧ 1 ≤ (16 + i) / 8 ^^^ 1 ∧ (16 + i) / 8 ^^^ 1 < 32 := by decide +kernel
theorem sI_X (S : rf_S) (m : mS) (nd : Nat → Int64) {p : Nat} (v : Int32) (h9 : Nat.beq p 9 = false) (h10 : Nat.beq p 10 = false) (h11 : Nat.beq p 11 = false) : sI (sX S m nd) p v = sX (sI S p v) m nd := by
  rw [sI_sC, sI_sC]
  show sC (sD (sM S m) 12 nd) p _ = sD (sM (sC S p _) m) 12 nd
  unfold sM
  have c1 : ∀ (f : Nat → Int32) (T : rf_S), sC (sD T 12 nd) p f = sD (sC T p f) 12 nd := fun f T => rfl
  have sw : ∀ {q : Nat}, Nat.beq p q = false → Nat.beq q p = false := fun {q} h => rf_beq_ne (fun e => by rw [e, Nat.beq_refl] at h; cases h)
  rw [c1, sC_comm _ (p := 11) (p' := p) (sw h11), sC_comm _ (p := 10) (p' := p) (sw h10), sC_comm _ (p := 9) (p' := p) (sw h9)]
theorem sJ_X (S : rf_S) (m : mS) (nd : Nat → Int64) {p : Nat} (v : Int64) (h12 : Nat.beq p 12 = false) : sJ (sX S m nd) p v = sX (sJ S p v) m nd := by
  unfold sJ sX sD
  refine Prod.ext rfl ?_
  funext q
  dsimp only
  cases hq : Nat.beq q p with
  | false => cases Nat.beq q 12 <;> first | rfl | (show (sM S m).2 q = cond (Nat.beq q p) _ (S.2 q); rw [hq]; rfl)
  | true =>
    have : q = p := Nat.eq_of_beq_eq_true hq
    subst this
    rw [h12]
    show _ = cond (Nat.beq q q) _ (S.2 q)
    rw [Nat.beq_refl]
    rfl
theorem sp_cell1_X (T : rf_S) (m : mS) (nd : Nat → Int64) (c : Nat) (k v : Int32) (w1 w2 w3 w4 : Int64) : sp_cell1 (sX T m nd) c k v w1 w2 w3 w4 = sX (sp_cell1 T c k v w1 w2 w3 w4) m nd := by
  unfold sp_cell1
  rw [sA_X _ _ _ _ _ rfl rfl rfl, sA_X _ _ _ _ _ rfl rfl rfl, sL_X _ _ _ _ _ rfl, sL_X _ _ _ _ _ rfl, sL_X _ _ _ _ _ rfl, sL_X _ _ _ _ _ rfl, sI_X _ _ _ _ rfl rfl rfl]
  rfl
theorem sp_paper_X (T : rf_S) (m : mS) (nd : Nat → Int64) (p : Int32) (v : Int64) : sp_paper (sX T m nd) p v = sX (sp_paper T p v) m nd := by
  unfold sp_paper
  rw [sI_X _ _ _ _ rfl rfl rfl, sJ_X _ _ _ _ rfl, sI_X _ _ _ _ rfl rfl rfl]
/-- on the paper so far: cells below i -/
def w_inv (T : rf_S) (i c : Nat) : Prop := T.1 36 0 = nI c ∧ c ≤ 4 ∧ c ≤ i ∧ ∀ j, j < c → ∃ q, q < i ∧ T.1 37 j = nI q
theorem w_inv.on {T : rf_S} {i c : Nat} (h : w_inv T i c) (hi : i < 16) : sp_on T (nI i) c = none := by
  rcases on_dec T (nI i) c with o | ⟨j, hj, o⟩
  · exact o
  · obtain ⟨q, hq, hq2⟩ := h.2.2.2 j hj
    have e := of_decide_eq_true (fnd_some o).2.2
    rw [hq2] at e
    have := (nI_eq (by omega) (by omega)).mp e
    omega
theorem w_inv.next {f : Nat → Int32} {ask : Nat → Bool} {T : rf_S} {i c : Nat} (h : w_inv T i c) : ∃ c', w_inv (sp_w1 f ask T i) (i + 1) c' := by
  unfold sp_w1
  by_cases hc : ask i = true ∧ ¬ T.1 36 0 = 4
  · rw [if_pos hc, h.1, nI_clamp (by have := h.2.1; omega)]
    have hlt : c < 4 := by
      rcases Nat.lt_or_ge c 4 with q | q
      · exact q
      · exact absurd (h.1.trans (by rw [show c = 4 by have := h.2.1; omega]; rfl)) hc.2
    refine ⟨c + 1, ?_, by omega, by have := h.2.2.1; omega, fun j hj => ?_⟩
    · show T.1 36 0 + 1 = nI (c + 1)
      rw [h.1, nI_1]
    · show ∃ q, q < i + 1 ∧ upd (T.1 37) c (nI i) j = nI q
      by_cases e : j = c
      · rw [e]; exact ⟨i, by omega, pk_us⟩
      · rw [pk_un e]
        obtain ⟨q, hq, hq2⟩ := h.2.2.2 j (by omega)
        exact ⟨q, by omega, hq2⟩
  · rw [if_neg hc]
    exact ⟨c, h.1, h.2.1, by have := h.2.2.1; omega, fun j hj => by
      obtain ⟨q, hq, hq2⟩ := h.2.2.2 j hj
      exact ⟨q, by omega, hq2⟩⟩
set_option maxRecDepth 20000 in
set_option maxHeartbeats 4000000 in
theorem rl_wcell {Q : mj_post} {nx i k bb c : Nat} {n : Int32} {T : rf_S} {m : mS} {nd f : Nat → _} {lv : List (Nat × Value)} (hi : i < 16) (hm : ∀ i, i < 16 → m.1 i = f i) (hnd : ∀ j, 1 ≤ j → j < 32 → nd j = t_n f j) (hw : w_inv T i c) (hlv : mj_pk lv [0, 1, 2, 3, 5, 6] = some [(0, .ref 21), (1, .int (nI bb)), (2, .int n), (3, .int 1), (5, .int (nI k)), (6, .int (nI i))]) (kk : ∀ z : Int32, mj_W me_Ref_write 65 [(0, .ref 21), (1, .int (nI bb)), (2, .int n), (3, .int 1), (4, .int z), (5, .int (nI k)), (6, .int (nI (i + 1)))] [] (rf_h (sX (sp_w1 f (fun _ => true) T i) m nd)) mj_0 nx 0 0 Q) : mj_W me_Ref_write 206 lv [] (rf_h (sX T m nd)) mj_0 nx 0 0 Q := by
  refine mj_W.fewer _ hlv ?_
  obtain ⟨⟨r1, r2⟩, ⟨r3, r4⟩, ⟨r5, r6⟩, r7, r8⟩ := sibr i hi
  have e16 : (16 : Int32) + nI i = nI (16 + i) := ix_add (x := 16) rfl rfl
  have hon := hw.on hi
  have h36 := hw.1
  have h4 := hw.2.1
  have ecell : (sp_cell (sX T m nd) (nI i) (f i) (t_n f ((16 + i) ^^^ 1)) (t_n f ((16 + i) / 2 ^^^ 1)) (t_n f ((16 + i) / 4 ^^^ 1)) (t_n f ((16 + i) / 8 ^^^ 1)) c).2 = sX (sp_w1 f (fun _ => true) T i) m nd := by
    unfold sp_w1 sp_cell
    by_cases c4 : T.1 36 0 = 4
    · rw [if_neg (fun q => q.2.2 c4), if_neg (fun q => q.2 c4)]
    · rw [if_pos ⟨nat_isN (n := 16) hi (by omega), hon, c4⟩, if_pos ⟨rfl, c4⟩, h36, nI_clamp (by omega)]
      exact sp_cell1_X T m nd _ _ _ _ _ _ _
  iterate 4 (refine mj_r_pure rfl rfl ?_)
  rw [e16]
  iterate 3 (refine mj_r_pure rfl rfl ?_)
  refine rr_get rfl rfl rfl ?_
  refine mj_r_pure rfl rfl ?_
  refine rx_iald rfl rfl (by first | rfl | assumption) (by omega) ?_
  refine mj_r_pure rfl rfl ?_
  refine rr_get rfl rfl rfl ?_
  iterate 3 (refine mj_r_pure rfl rfl ?_)
  refine rx_lald rfl rfl (sib1 i hi) (by omega) ?_
  refine mj_r_pure rfl rfl ?_
  refine rr_get rfl rfl rfl ?_
  iterate 5 (refine mj_r_pure rfl rfl ?_)
  refine rx_lald rfl rfl (sib2 i hi) (by omega) ?_
  refine mj_r_pure rfl rfl ?_
  refine rr_get rfl rfl rfl ?_
  iterate 5 (refine mj_r_pure rfl rfl ?_)
  refine rx_lald rfl rfl (sib4 i hi) (by omega) ?_
  refine mj_r_pure rfl rfl ?_
  refine rr_get rfl rfl rfl ?_
  iterate 5 (refine mj_r_pure rfl rfl ?_)
  refine rx_lald rfl rfl (sib8 i hi) (by omega) ?_
  change mj_W _ _ _ [.long (nd ((16 + i) / 8 ^^^ 1)), .long (nd ((16 + i) / 4 ^^^ 1)), .long (nd ((16 + i) / 2 ^^^ 1)), .long (nd ((16 + i) ^^^ 1)), .int (m.1 i), .int (nI i), .ref 21] _ _ _ _ _ _
  rw [hm i hi, hnd _ r1 r2, hnd _ r3 r4, hnd _ r5 r6, hnd _ r7 r8]
  refine mj_r_callV (ci := 10) (kc := 0) (ks := 0) rfl li_Ref_217 ck_Ref_cell iv_Ref_cell (by decide) rfl rfl (K_Ref_cell (sX T m nd) (nI i) (f i) _ _ _ _ nx c h36 h4) rfl rfl (Nat.le_of_ble_eq_true rfl) ?_
  rintro _ _ _ ⟨rfl, rfl, rfl⟩ _
  rw [ecell]
  iterate 3 (refine mj_r_pure rfl rfl ?_)
  rw [nI_1]; exact mj_W.fewer [0, 1, 2, 3, 4, 5, 6] rfl (kk _)
