/-! the class: write -/
theorem sbr2 : ∀ i, i < 16 → nI (16 + i) >>> (1 &&& 31 : Int32) ^^^ 1 = nI ((16 + i) / 2 ^^^ 1) := by decide +kernel
theorem sbr4 : ∀ i, i < 16 → nI (16 + i) >>> (2 &&& 31 : Int32) ^^^ 1 = nI ((16 + i) / 4 ^^^ 1) := by decide +kernel
theorem sbr8 : ∀ i, i < 16 → nI (16 + i) >>> (3 &&& 31 : Int32) ^^^ 1 = nI ((16 + i) / 8 ^^^ 1) := by decide +kernel
def aM (h : mj_H) (m : mS) (nd : Nat → Int64) : Prop := h.1 5 4 = some (oMch m) ∧ h.2.1 5 = some (16, m.1) ∧ h.2.2.1 6 = some (32, nd)
theorem aM.fP {h h' : mj_H} {m : mS} {nd : Nat → Int64} (a : aM h m nd) (f : fP h h') : aM h' m nd := by
  unfold aM
  rw [f.1 5 (by decide) (by decide), f.2.1, f.2.2.1]
  exact a
set_option maxRecDepth 20000 in
set_option maxHeartbeats 4000000 in
theorem K_Top_copyToPaper (h : mj_H) (S : rf_S) (nx n nb pa i : Nat) (m : mS) (nd : Nat → Int64) (f : Nat → Int32) (ht : h.1 9 0 = some (oTop nb pa)) (hm : aM h m nd) (hp : iPa h S n) (hi : i < 16) (hf : m.1 i = f i) (hnd : ∀ j, 1 ≤ j → j < 32 → nd j = t_n f j) : mj_K me_Top_copyToPaper [.ref 0, .int (nI i)] h nx 0 0 (fun r h' nx' => r = none ∧ nx = nx' ∧ fP h h' ∧ ∃ n', iPa h' (sp_w1 f (fun _ => true) S i) n') := by
  refine mj_K.of ok_Top_copyToPaper ck_Top_copyToPaper (Nat.le_of_ble_eq_true rfl) ?_
  obtain ⟨m1, m2, m3⟩ := hm
  have hn := hp.1.1
  have h4 := hp.1.2.1
  obtain ⟨⟨r1, r2⟩, ⟨r3, r4⟩, ⟨r5, r6⟩, r7, r8⟩ := sibr i hi
  have e16 : (16 : Int32) + nI i = nI (16 + i) := ix_add (x := 16) rfl rfl
  by_cases hlt : n < 4
  · obtain ⟨W, hW, -⟩ := (hp.2.2.2 n hlt).2
    have ew : sp_w1 f (fun _ => true) S i = sp_cell1 S n (nI i) (f i) (t_n f ((16 + i) ^^^ 1)) (t_n f ((16 + i) / 2 ^^^ 1)) (t_n f ((16 + i) / 4 ^^^ 1)) (t_n f ((16 + i) / 8 ^^^ 1)) := by
      rw [sp_w1, if_pos ⟨rfl, fun q => by have := hn.symm.trans q; have := (nI_eq (a := n) (b := 4) (by omega) (by omega)).mp this; omega⟩, hn, nI_clamp (by omega)]
    rw [ew]
    refine mj_r_pure rfl rfl ?_
    refine mj_r_getf rfl rfl ht rfl ?_
    iterate 2 (refine mj_r_pure rfl rfl ?_)
    refine mj_r_getf rfl rfl ht rfl ?_
    refine mj_r_getf rfl rfl m1 rfl ?_
    refine mj_r_pure rfl rfl ?_
    refine cx_iald rfl m2 (by first | rfl | assumption) (by omega) ?_
    rw [hf]
    refine mj_r_cV0 (ci := 7)  rfl li_Top_157 ck_Paper_append iv_Paper_append (by decide) ((K_Paper_append_t _ S n nx (nI i) _ hp hlt)) rfl rfl (Nat.le_of_ble_eq_true rfl) rfl hp.2.1 ?_
    rintro _ _ _ ⟨rfl, rfl, rfl⟩ _
    iterate 2 (refine mj_r_pure rfl rfl ?_)
    refine mj_r_pure rfl rfl ?_
    iterate 3 (refine mj_r_pure rfl rfl ?_)
    rw [e16]
    iterate 2 (refine mj_r_pure rfl rfl ?_)
    refine mj_r_getf rfl rfl ht rfl ?_
    refine mj_r_getf rfl rfl m1 rfl ?_
    iterate 6 (refine mj_r_pure rfl rfl ?_)
    refine cx_lald rfl m3 (sib1 i hi) (by omega) ?_
    iterate 6 (refine mj_r_pure rfl rfl ?_)
    refine cx_lald rfl m3 (sbr2 i hi) (by omega) ?_
    iterate 6 (refine mj_r_pure rfl rfl ?_)
    refine cx_lald rfl m3 (sbr4 i hi) (by omega) ?_
    iterate 6 (refine mj_r_pure rfl rfl ?_)
    refine cx_lald rfl m3 (sbr8 i hi) (by omega) ?_
    rw [hnd _ r1 r2, hnd _ r3 r4, hnd _ r5 r6, hnd _ r7 r8]
    refine mj_r_cV0 (ci := 6)  rfl li_Top_160 ck_OnPaper_setBeside iv_OnPaper_setBeside (by decide) ((K_OnPaper_setBeside (hCell h n (nI i) (f i) (S.1 34 0) (S.2 35 0)) (9 + 2 * n) (10 + 2 * n) nx (nI i) (f i) W _ _ _ _ hCell_at hW)) rfl rfl (Nat.le_of_ble_eq_true rfl) rfl hCell_at ?_
    rintro _ _ _ ⟨rfl, rfl, rfl⟩ _
    exact mj_r_ret rfl rfl ⟨rfl, rfl, fP.cell, n + 1, hp.cell hlt hi (f i) _ _ _ _ W⟩
  · have e4 : n = 4 := by omega
    subst e4
    have ew : sp_w1 f (fun _ => true) S i = S := by rw [sp_w1, if_neg (fun q => q.2 hn)]
    rw [ew]
    refine mj_r_pure rfl rfl ?_
    refine mj_r_getf rfl rfl ht rfl ?_
    iterate 2 (refine mj_r_pure rfl rfl ?_)
    refine mj_r_getf rfl rfl ht rfl ?_
    refine mj_r_getf rfl rfl m1 rfl ?_
    refine mj_r_pure rfl rfl ?_
    refine cx_iald rfl m2 (by first | rfl | assumption) (by omega) ?_
    refine mj_r_cV0 (ci := 7)  rfl li_Top_157 ck_Paper_append iv_Paper_append (by decide) ((K_Paper_append_f _ S nx (nI i) _ hp)) rfl rfl (Nat.le_of_ble_eq_true rfl) rfl hp.2.1 ?_
    rintro _ _ _ ⟨rfl, rfl, rfl⟩ _
    iterate 2 (refine mj_r_pure rfl rfl ?_)
    refine mj_r_pure rfl rfl ?_
    exact mj_r_ret rfl rfl ⟨rfl, rfl, fP.rf _, 4, hp⟩
/-! which cells are asked for -/
theorem sh_1 : ∀ a, a < 16 → (1 : Int32) <<< (nI a &&& 31) = nI (2 ^ a) := by decide +kernel
theorem sh_s : ∀ i, i < 16 → ((nI i &&& 31).toBitVec.smod 32).toNat = i := by decide +kernel
theorem or_nI {x y : Nat} (hx : x < 2 ^ 16) (hy : y < 2 ^ 16) : nI x ||| nI y = nI (x ||| y) := by
  have hz : x ||| y < 2 ^ 16 := Nat.or_lt_two_pow hx hy
  refine Int32.toBitVec_inj.mp (BitVec.eq_of_toNat_eq ?_)
  rw [pk_tn (by omega)]
  show ((nI x).toBitVec ||| (nI y).toBitVec).toNat = _
  rw [BitVec.toNat_or, pk_tn (by omega), pk_tn (by omega)]
theorem bit_nI {x i : Nat} (hx : x < 2 ^ 16) (hi : i < 16) : (nI x >>> (nI i &&& 31) &&& 1 = 1) ↔ x.testBit i = true := by
  rw [pk_shrN (by omega) _ i (sh_s i hi), and1 (Nat.lt_of_le_of_lt (Nat.div_le_self _ _) (by omega)), Nat.testBit_eq_decide_div_mod_eq, decide_eq_true_eq]
  exact nI_eq (a := x / 2 ^ i % 2) (b := 1) (by omega) (by omega)
theorem p2_lt {a : Nat} (h : a < 16) : 2 ^ a < 2 ^ 16 := Nat.pow_lt_pow_right (by omega) h
theorem mask_ask {P : mP} {f : Nat → Int32} {k i : Nat} (hP : m_ok P) (hi : i < 16) : (m_mask P f k >>> (nI i &&& 31) &&& 1 = 1) ↔ m_ask P f k i = true := by
  obtain ⟨a, ha, ha2⟩ := hP.1 k
  obtain ⟨b, hb, hb2⟩ := hP.2 k
  rw [ak_ask (op := P.1 k) rfl ha2 ha hb2 hb]
  unfold m_mask m_va m_vb
  rw [ha2, hb2, nI_clamp (by omega), nI_clamp (by omega)]
  generalize P.1 k = op
  obtain ⟨t, ht, ht2⟩ : ∃ t : Nat, t < 16 ∧ sp_told op (nI a) (f a) (f b) = nI t := by
    unfold sp_told
    split
    · exact sp_m15 _
    · split
      · exact sp_m15 _
      · exact ⟨a, ha, rfl⟩
  have hz := Nat.or_lt_two_pow (p2_lt ha) (p2_lt ht)
  have ei : ∀ x : Nat, x < 16 → (x = i ↔ nI i = nI x) := fun x hx => ⟨fun q => by rw [q], fun q => ((nI_eq (by omega) (by omega)).mp q).symm⟩
  rw [ht2, sh_1 a ha, sh_1 b hb, sh_1 t ht, or_nI (p2_lt ha) (p2_lt ht), or_nI hz (p2_lt hb)]
  have key : (t = i ↔ nI i = nI a ∨ (op = 7 ∧ nI i = f b &&& 15) ∨ (op = 8 ∧ nI i = f a &&& 15)) ∨ (t = i → nI i = nI a ∨ (op = 7 ∧ nI i = f b &&& 15) ∨ (op = 8 ∧ nI i = f a &&& 15)) ∧ ((op = 7 ∧ nI i = f b &&& 15) ∨ (op = 8 ∧ nI i = f a &&& 15) → t = i) := by
    refine Or.inr ?_
    rw [ei t ht, ← ht2]
    unfold sp_told
    by_cases c7 : op = 7
    · rw [if_pos c7]
      exact ⟨fun q => Or.inr (Or.inl ⟨c7, q⟩), fun q => q.elim (fun z => z.2) (fun z => absurd (c7.symm.trans z.1) (by decide))⟩
    · rw [if_neg c7]
      by_cases c8 : op = 8
      · rw [if_pos c8]
        exact ⟨fun q => Or.inr (Or.inr ⟨c8, q⟩), fun q => q.elim (fun z => absurd z.1 c7) (fun z => z.2)⟩
      · rw [if_neg c8]
        exact ⟨fun q => Or.inl q, fun q => q.elim (fun z => absurd z.1 c7) (fun z => absurd z.1 c8)⟩
  have key : (t = i → nI i = nI a ∨ (op = 7 ∧ nI i = f b &&& 15) ∨ (op = 8 ∧ nI i = f a &&& 15)) ∧ ((op = 7 ∧ nI i = f b &&& 15) ∨ (op = 8 ∧ nI i = f a &&& 15) → t = i) := by
    rcases key with q | q
    · exact ⟨q.mp, fun z => q.mpr (Or.inr z)⟩
    · exact q
  unfold ak
  split
  · next htw =>
    rw [bit_nI (Nat.or_lt_two_pow hz (p2_lt hb)) hi, Nat.testBit_or, Nat.testBit_or, Nat.testBit_two_pow, Nat.testBit_two_pow, Nat.testBit_two_pow]
    simp only [Bool.or_eq_true, decide_eq_true_eq]
    rw [ei a ha, ei b hb]
    constructor
    · rintro ((q | q) | q)
      · exact Or.inl q
      · rcases key.1 q with z | z
        · exact Or.inl z
        · exact Or.inr (Or.inr z)
      · exact Or.inr (Or.inl ⟨htw, q⟩)
    · rintro (q | q | q)
      · exact Or.inl (Or.inl q)
      · exact Or.inr q.2
      · exact Or.inl (Or.inr (key.2 q))
  · next htw =>
    rw [bit_nI hz hi, Nat.testBit_or, Nat.testBit_two_pow, Nat.testBit_two_pow]
    simp only [Bool.or_eq_true, decide_eq_true_eq]
    rw [ei a ha]
    constructor
    · rintro (q | q)
      · exact Or.inl q
      · rcases key.1 q with z | z
        · exact Or.inl z
        · exact Or.inr (Or.inr z)
    · rintro (q | q | q)
      · exact Or.inl q
      · exact absurd q.1 htw
      · exact Or.inr (key.2 q)
theorem sp_w1_no {f : Nat → Int32} {ask : Nat → Bool} {T : rf_S} {i : Nat} (h : ¬ ask i = true) : sp_w1 f ask T i = T := by rw [sp_w1, if_neg (fun q => h q.1)]
theorem sp_w1_yes {f : Nat → Int32} {ask : Nat → Bool} {T : rf_S} {i : Nat} (h : ask i = true) : sp_w1 f ask T i = sp_w1 f (fun _ => true) T i := by unfold sp_w1; rw [h]
theorem sp_wl_no {f : Nat → Int32} {T : rf_S} (n : Nat) : sp_wl f (fun _ => false) T n = T := by
  induction n with
  | zero => rfl
  | succ n ih => show sp_w1 f _ (sp_wl f _ T n) n = T; rw [ih, sp_w1_no (fun q => by cases q)]
set_option maxRecDepth 20000 in
set_option maxHeartbeats 4000000 in
theorem cl_wl {Q : mj_post} {h0 : mj_H} {T0 : rf_S} {nx nb pa a : Nat} {b s mask : Int32} {m : mS} {nd : Nat → Int64} {f : Nat → Int32} {ask : Nat → Bool} (ht : h0.1 9 0 = some (oTop nb pa)) (hm : aM h0 m nd) (hf : ∀ i, i < 16 → m.1 i = f i) (hnd : ∀ j, 1 ≤ j → j < 32 → nd j = t_n f j) (hask : ∀ i, i < 16 → ((mask >>> (nI i &&& 31) &&& 1 = 1) ↔ ask i = true)) (k : ∀ h c, fP h0 h → iPa h (sp_wl f ask T0 16) c → mj_W me_Top_write 105 [(0, .ref 0), (1, .int b), (2, .int s), (3, .ref a), (4, .int mask), (5, .int (nI 16))] [] h mj_0 nx 0 0 Q) : ∀ (d i c : Nat) (h : mj_H), i + d = 16 → fP h0 h → iPa h (sp_wl f ask T0 i) c → mj_W me_Top_write 75 [(0, .ref 0), (1, .int b), (2, .int s), (3, .ref a), (4, .int mask), (5, .int (nI i))] [] h mj_0 nx 0 0 Q := by
  intro d
  induction d with
  | zero =>
    intro i c h hi hfr hp
    have e : i = 16 := by omega
    subst e
    iterate 2 (refine mj_r_pure rfl rfl ?_)
    refine mj_r_icmp_ge rfl (fun c1 => ?_) (fun c1 => absurd c1 (fun q => q (nI_le (a := 16) (b := 16) (Nat.le_refl _) (by omega))))
    exact k h c hfr hp
  | succ d ih =>
    intro i c h hi hfr hp
    have ih2 := ih (i + 1)
    unfold sp_wl at ih2
    generalize sp_wl f ask T0 i = T at hp ih2
    have ht2 : h.1 9 0 = some (oTop nb pa) := by rw [hfr.1 9 (by decide) (by decide)]; exact ht
    iterate 2 (refine mj_r_pure rfl rfl ?_)
    refine mj_r_icmp_ge rfl (fun c1 => absurd c1 (nI_ge (a := i) (b := 16) (by omega) (by omega))) (fun c1 => ?_)
    iterate 6 (refine mj_r_pure rfl rfl ?_)
    refine mj_r_icmp_ne rfl (fun c2 => ?_) (fun c2 => ?_)
    · iterate 2 (refine mj_r_pure rfl rfl ?_)
      rw [nI_1]; exact ih2 c _ (by omega) hfr (by rw [sp_w1_no (fun q => c2 ((hask i (by omega)).mpr q))]; exact hp)
    · iterate 2 (refine mj_r_pure rfl rfl ?_)
      refine mj_r_cV0 (ci := 9)  rfl li_Top_201 ck_Top_copyToPaper iv_Top_copyToPaper (by decide) ((K_Top_copyToPaper _ T nx c nb pa i m nd f ht2 (hm.fP hfr) hp (by omega) (hf i (by omega)) hnd)) rfl rfl (Nat.le_of_ble_eq_true rfl) rfl ht2 ?_
      rintro _ h' _ ⟨rfl, rfl, hfr2, c', hp2⟩ _
      iterate 2 (refine mj_r_pure rfl rfl ?_)
      rw [nI_1]; exact ih2 c' _ (by omega) (hfr.tr hfr2) (by rw [sp_w1_yes ((hask i (by omega)).mp c2)]; exact hp2)
