/-! a heap of which less is known; the reference's constructor -/
def mj_bel (h' h : mj_H) : Prop := (∀ ci a fs, h'.1 ci a = some fs → h.1 ci a = some fs) ∧ (∀ a x, h'.2.1 a = some x → h.2.1 a = some x) ∧ (∀ a x, h'.2.2.1 a = some x → h.2.2.1 a = some x) ∧ ∀ ci a x, h'.2.2.2 ci a = some x → h.2.2.2 ci a = some x
theorem mj_bel.d {h' h : mj_H} (s : mj_bel h' h) {a : Nat} (d : mj_d h' a) : mj_d h a := by
  rcases d with ⟨ci, fs, q⟩ | ⟨x, q⟩ | ⟨x, q⟩ | ⟨ci, x, q⟩
  · exact Or.inl ⟨ci, fs, s.1 _ _ _ q⟩
  · exact Or.inr (Or.inl ⟨x, s.2.1 _ _ q⟩)
  · exact Or.inr (Or.inr (Or.inl ⟨x, s.2.2.1 _ _ q⟩))
  · exact Or.inr (Or.inr (Or.inr ⟨ci, x, s.2.2.2 _ _ _ q⟩))
theorem mj_R.sub {E : mj_E} {h' h : mj_H} {nx : Nat} {H : Heap} (hR : mj_R E h nx H) (s : mj_bel h' h) : mj_R E h' nx H := by
  obtain ⟨kd, h1, h2, h3, h4⟩ := hR
  exact ⟨kd, fun ci a fs q => h1 ci a fs (s.1 _ _ _ q), fun a n f q => h2 a n f (s.2.1 _ _ q), fun a n f q => h3 a n f (s.2.2.1 _ _ q), fun ci a n f q => h4 ci a n f (s.2.2.2 _ _ _ q)⟩
theorem mj_W.sub {M : mj_M} {pc : Nat} {lv : List (Nat × Value)} {st : List Value} {h h' g : mj_H} {nx kc ks : Nat} {Q : mj_post} (s : mj_bel h' h) (k : mj_W M pc lv st h' g nx kc ks Q) : mj_W M pc lv st h g nx kc ks Q := fun E p l e R s0 m args below meth c A Z hC H locs ls cells slots hJ hl => by
  refine k E p l e R s0 m args below meth c A Z hC H locs ls cells slots ?_ hl
  obtain ⟨⟨a1, a2, a3, a4⟩, j2, j3, j4⟩ := hJ
  exact ⟨⟨a1.sub s, a2, fun a x y => a3 a (s.d x) y, a4⟩, fun a d => j2 a (s.d d), j3, j4⟩
def S00 : rf_S := (fun _ _ => 0, fun _ _ => 0)
def S0 : rf_S := sp_fill S00 8
set_option maxRecDepth 20000 in
set_option maxHeartbeats 4000000 in
theorem K_Ref_init : mj_K me_Ref_init [.ref 21] (mj_so mj_0 10 21 ((mj_dl 10).getD [])) 22 30 2152 (fun r h' nx' => r = none ∧ h' = rf_h S0 ∧ nx' = 52) := by
  refine mj_K.of ok_Ref_init ck_Ref_init (Nat.le_of_ble_eq_true rfl) ?_
  have go : ∀ (d i : Nat), i + d = 8 → mj_W me_Ref_init 248 [(0, .ref 21), (1, .int (nI i))] [] (rf_h (sp_fill S00 i)) mj_0 52 0 0 (fun _ => True, fun r h' _ nx' => r = none ∧ h' = rf_h S0 ∧ nx' = 52) := by
    intro d
    induction d with
    | zero =>
      intro i hi
      have e : i = 8 := by omega
      subst e
      iterate 2 (refine mj_r_pure rfl rfl ?_)
      refine mj_r_icmp_ge rfl (fun c1 => ?_) (fun c1 => absurd c1 (fun q => q (nI_le (a := 8) (b := 8) (Nat.le_refl _) (by omega))))
      exact mj_r_ret rfl rfl ⟨rfl, rfl, rfl⟩
    | succ d ih =>
      intro i hi
      have e := ih (i + 1) (by omega)
      iterate 2 (refine mj_r_pure rfl rfl ?_)
      refine mj_r_icmp_ge rfl (fun c1 => absurd c1 (nI_ge (a := i) (b := 8) (by omega) (by omega))) (fun c1 => ?_)
      refine mj_r_pure rfl rfl ?_
      refine rr_get rfl rfl rfl ?_
      iterate 2 (refine mj_r_pure rfl rfl ?_)
      refine rx_iast rfl rfl (by first | rfl | assumption) (by omega) ?_
      iterate 2 (refine mj_r_pure rfl rfl ?_)
      rw [nI_1]; exact e
  refine mj_r_pure rfl rfl ?_
  refine mj_r_oi rfl oi_Ref (by decide) (by decide) ?_
  iterate 2 (refine mj_r_pure rfl rfl ?_)
  refine mj_r_newI (N := 216) rfl (by decide) (by decide) (by decide) ?_
  refine mj_r_putf rfl rfl rfl rfl (Or.inr ⟨rfl, rfl, rfl⟩) rfl rfl ?_
  iterate 2 (refine mj_r_pure rfl rfl ?_)
  refine mj_r_newI (N := 216) rfl (by decide) (by decide) (by decide) ?_
  refine mj_r_putf rfl rfl rfl rfl (Or.inr ⟨rfl, rfl, rfl⟩) rfl rfl ?_
  iterate 2 (refine mj_r_pure rfl rfl ?_)
  refine mj_r_newI (N := 216) rfl (by decide) (by decide) (by decide) ?_
  refine mj_r_putf rfl rfl rfl rfl (Or.inr ⟨rfl, rfl, rfl⟩) rfl rfl ?_
  iterate 2 (refine mj_r_pure rfl rfl ?_)
  refine mj_r_newI (N := 216) rfl (by decide) (by decide) (by decide) ?_
  refine mj_r_putf rfl rfl rfl rfl (Or.inr ⟨rfl, rfl, rfl⟩) rfl rfl ?_
  iterate 2 (refine mj_r_pure rfl rfl ?_)
  refine mj_r_newI (N := 8) rfl (by decide) (by decide) (by decide) ?_
  refine mj_r_putf rfl rfl rfl rfl (Or.inr ⟨rfl, rfl, rfl⟩) rfl rfl ?_
  iterate 2 (refine mj_r_pure rfl rfl ?_)
  refine mj_r_newI (N := 32) rfl (by decide) (by decide) (by decide) ?_
  refine mj_r_putf rfl rfl rfl rfl (Or.inr ⟨rfl, rfl, rfl⟩) rfl rfl ?_
  iterate 2 (refine mj_r_pure rfl rfl ?_)
  refine mj_r_newI (N := 8) rfl (by decide) (by decide) (by decide) ?_
  refine mj_r_putf rfl rfl rfl rfl (Or.inr ⟨rfl, rfl, rfl⟩) rfl rfl ?_
  iterate 2 (refine mj_r_pure rfl rfl ?_)
  refine mj_r_newI (N := 16) rfl (by decide) (by decide) (by decide) ?_
  refine mj_r_putf rfl rfl rfl rfl (Or.inr ⟨rfl, rfl, rfl⟩) rfl rfl ?_
  iterate 2 (refine mj_r_pure rfl rfl ?_)
  refine mj_r_newJ (N := 32) rfl (by decide) (by decide) (by decide) ?_
  refine mj_r_putf rfl rfl rfl rfl (Or.inr ⟨rfl, rfl, rfl⟩) rfl rfl ?_
  iterate 2 (refine mj_r_pure rfl rfl ?_)
  refine mj_r_newI (N := 8) rfl (by decide) (by decide) (by decide) ?_
  refine mj_r_putf rfl rfl rfl rfl (Or.inr ⟨rfl, rfl, rfl⟩) rfl rfl ?_
  iterate 2 (refine mj_r_pure rfl rfl ?_)
  refine mj_r_newI (N := 40) rfl (by decide) (by decide) (by decide) ?_
  refine mj_r_putf rfl rfl rfl rfl (Or.inr ⟨rfl, rfl, rfl⟩) rfl rfl ?_
  iterate 2 (refine mj_r_pure rfl rfl ?_)
  refine mj_r_newI (N := 40) rfl (by decide) (by decide) (by decide) ?_
  refine mj_r_putf rfl rfl rfl rfl (Or.inr ⟨rfl, rfl, rfl⟩) rfl rfl ?_
  iterate 2 (refine mj_r_pure rfl rfl ?_)
  refine mj_r_newJ (N := 40) rfl (by decide) (by decide) (by decide) ?_
  refine mj_r_putf rfl rfl rfl rfl (Or.inr ⟨rfl, rfl, rfl⟩) rfl rfl ?_
  iterate 2 (refine mj_r_pure rfl rfl ?_)
  refine mj_r_newI (N := 40) rfl (by decide) (by decide) (by decide) ?_
  refine mj_r_putf rfl rfl rfl rfl (Or.inr ⟨rfl, rfl, rfl⟩) rfl rfl ?_
  iterate 2 (refine mj_r_pure rfl rfl ?_)
  refine mj_r_newI (N := 40) rfl (by decide) (by decide) (by decide) ?_
  refine mj_r_putf rfl rfl rfl rfl (Or.inr ⟨rfl, rfl, rfl⟩) rfl rfl ?_
  iterate 2 (refine mj_r_pure rfl rfl ?_)
  refine mj_r_newI (N := 80) rfl (by decide) (by decide) (by decide) ?_
  refine mj_r_putf rfl rfl rfl rfl (Or.inr ⟨rfl, rfl, rfl⟩) rfl rfl ?_
  iterate 2 (refine mj_r_pure rfl rfl ?_)
  refine mj_r_newI (N := 80) rfl (by decide) (by decide) (by decide) ?_
  refine mj_r_putf rfl rfl rfl rfl (Or.inr ⟨rfl, rfl, rfl⟩) rfl rfl ?_
  iterate 2 (refine mj_r_pure rfl rfl ?_)
  refine mj_r_newI (N := 80) rfl (by decide) (by decide) (by decide) ?_
  refine mj_r_putf rfl rfl rfl rfl (Or.inr ⟨rfl, rfl, rfl⟩) rfl rfl ?_
  iterate 2 (refine mj_r_pure rfl rfl ?_)
  refine mj_r_newI (N := 80) rfl (by decide) (by decide) (by decide) ?_
  refine mj_r_putf rfl rfl rfl rfl (Or.inr ⟨rfl, rfl, rfl⟩) rfl rfl ?_
  iterate 2 (refine mj_r_pure rfl rfl ?_)
  refine mj_r_newI (N := 80) rfl (by decide) (by decide) (by decide) ?_
  refine mj_r_putf rfl rfl rfl rfl (Or.inr ⟨rfl, rfl, rfl⟩) rfl rfl ?_
  iterate 2 (refine mj_r_pure rfl rfl ?_)
  refine mj_r_newJ (N := 80) rfl (by decide) (by decide) (by decide) ?_
  refine mj_r_putf rfl rfl rfl rfl (Or.inr ⟨rfl, rfl, rfl⟩) rfl rfl ?_
  iterate 2 (refine mj_r_pure rfl rfl ?_)
  refine mj_r_newJ (N := 80) rfl (by decide) (by decide) (by decide) ?_
  refine mj_r_putf rfl rfl rfl rfl (Or.inr ⟨rfl, rfl, rfl⟩) rfl rfl ?_
  iterate 2 (refine mj_r_pure rfl rfl ?_)
  refine mj_r_newJ (N := 80) rfl (by decide) (by decide) (by decide) ?_
  refine mj_r_putf rfl rfl rfl rfl (Or.inr ⟨rfl, rfl, rfl⟩) rfl rfl ?_
  iterate 2 (refine mj_r_pure rfl rfl ?_)
  refine mj_r_newI (N := 80) rfl (by decide) (by decide) (by decide) ?_
  refine mj_r_putf rfl rfl rfl rfl (Or.inr ⟨rfl, rfl, rfl⟩) rfl rfl ?_
  iterate 2 (refine mj_r_pure rfl rfl ?_)
  refine mj_r_newI (N := 80) rfl (by decide) (by decide) (by decide) ?_
  refine mj_r_putf rfl rfl rfl rfl (Or.inr ⟨rfl, rfl, rfl⟩) rfl rfl ?_
  iterate 2 (refine mj_r_pure rfl rfl ?_)
  refine mj_r_newI (N := 80) rfl (by decide) (by decide) (by decide) ?_
  refine mj_r_putf rfl rfl rfl rfl (Or.inr ⟨rfl, rfl, rfl⟩) rfl rfl ?_
  iterate 2 (refine mj_r_pure rfl rfl ?_)
  refine mj_r_newI (N := 80) rfl (by decide) (by decide) (by decide) ?_
  refine mj_r_putf rfl rfl rfl rfl (Or.inr ⟨rfl, rfl, rfl⟩) rfl rfl ?_
  iterate 2 (refine mj_r_pure rfl rfl ?_)
  refine mj_r_newI (N := 4) rfl (by decide) (by decide) (by decide) ?_
  refine mj_r_putf rfl rfl rfl rfl (Or.inr ⟨rfl, rfl, rfl⟩) rfl rfl ?_
  iterate 2 (refine mj_r_pure rfl rfl ?_)
  refine mj_r_newI (N := 4) rfl (by decide) (by decide) (by decide) ?_
  refine mj_r_putf rfl rfl rfl rfl (Or.inr ⟨rfl, rfl, rfl⟩) rfl rfl ?_
  iterate 2 (refine mj_r_pure rfl rfl ?_)
  refine mj_r_newJ (N := 16) rfl (by decide) (by decide) (by decide) ?_
  refine mj_r_putf rfl rfl rfl rfl (Or.inr ⟨rfl, rfl, rfl⟩) rfl rfl ?_
  iterate 2 (refine mj_r_pure rfl rfl ?_)
  refine mj_W.sub (h' := rf_h S00) ⟨?_, ?_, ?_, fun _ _ _ q => by cases q⟩ (go 8 0 rfl)
  · intro ci a fs q
    have q : cond (Nat.beq ci 10) (cond (Nat.beq a 21) (some (rf_fl S00)) none) none = some fs := q
    cases hc : Nat.beq ci 10 with
    | false => rw [hc] at q; cases q
    | true =>
      rw [hc] at q
      cases ha : Nat.beq a 21 with
      | false => rw [ha] at q; cases q
      | true =>
        rw [ha] at q
        cases q
        rw [Nat.eq_of_beq_eq_true hc, Nat.eq_of_beq_eq_true ha]
        rfl
  · intro a x q
    have q : (match rf_look rf_it a with | some (p, N) => some (N, S00.1 p) | none => none) = some x := q
    cases hl : rf_look rf_it a with
    | none => rw [hl] at q; cases q
    | some y =>
      obtain ⟨p, N⟩ := y
      rw [hl] at q
      cases q
      have hm := rf_look_mem hl
      simp only [rf_it, List.mem_cons, List.not_mem_nil, or_false, Prod.mk.injEq] at hm
      rcases hm with ⟨rfl, rfl, rfl⟩ | ⟨rfl, rfl, rfl⟩ | ⟨rfl, rfl, rfl⟩ | ⟨rfl, rfl, rfl⟩ | ⟨rfl, rfl, rfl⟩ | ⟨rfl, rfl, rfl⟩ | ⟨rfl, rfl, rfl⟩ | ⟨rfl, rfl, rfl⟩ | ⟨rfl, rfl, rfl⟩ | ⟨rfl, rfl, rfl⟩ | ⟨rfl, rfl, rfl⟩ | ⟨rfl, rfl, rfl⟩ | ⟨rfl, rfl, rfl⟩ | ⟨rfl, rfl, rfl⟩ | ⟨rfl, rfl, rfl⟩ | ⟨rfl, rfl, rfl⟩ | ⟨rfl, rfl, rfl⟩ | ⟨rfl, rfl, rfl⟩ | ⟨rfl, rfl, rfl⟩ | ⟨rfl, rfl, rfl⟩ | ⟨rfl, rfl, rfl⟩ | ⟨rfl, rfl, rfl⟩ | ⟨rfl, rfl, rfl⟩ | ⟨rfl, rfl, rfl⟩ <;> rfl
  · intro a x q
    have q : (match rf_look rf_jt a with | some (p, N) => some (N, S00.2 p) | none => none) = some x := q
    cases hl : rf_look rf_jt a with
    | none => rw [hl] at q; cases q
    | some y =>
      obtain ⟨p, N⟩ := y
      rw [hl] at q
      cases q
      have hm := rf_look_mem hl
      simp only [rf_jt, List.mem_cons, List.not_mem_nil, or_false, Prod.mk.injEq] at hm
      rcases hm with ⟨rfl, rfl, rfl⟩ | ⟨rfl, rfl, rfl⟩ | ⟨rfl, rfl, rfl⟩ | ⟨rfl, rfl, rfl⟩ | ⟨rfl, rfl, rfl⟩ | ⟨rfl, rfl, rfl⟩ <;> rfl
