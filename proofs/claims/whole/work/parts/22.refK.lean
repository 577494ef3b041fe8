/-! the reference: the judge -/
set_option maxRecDepth 20000 in
set_option maxHeartbeats 4000000 in
theorem K_Ref_has_t (S : rf_S) (k a b nx n : Nat) (hk : k < 216) (ha : S.1 1 k = nI a) (ha2 : a < 16) (hb : S.1 2 k = nI b) (hb2 : b < 16) (hn : S.1 36 0 = nI n) (h4 : n ≤ 4) (hh : sp_has S k n) : mj_K me_Ref_hasCells [.ref 21, .int (nI k)] (rf_h S) nx 0 0 (fun r h' nx' => r = some (.int 1) ∧ nx = nx' ∧ ∃ f, h' = rf_h (sC S 9 f) ∧ sp_hasC S k n f) := by
  refine mj_K.of ok_Ref_hasCells ck_Ref_hasCells (Nat.le_of_ble_eq_true rfl) ?_
  unfold sp_hasC
  unfold sp_has at hh
  rw [ha, hb] at hh
  rw [ha, hb, nI_clamp (by omega), nI_clamp (by omega)]
  generalize hop : S.1 0 k = op at hh ⊢
  obtain ⟨⟨ja, oa⟩, h2, h7, h8⟩ := hh
  have ea : pv S n (nI a) = S.1 38 ja := pv_some oa
  refine rl_hasA hk hop ha hb (fun t ht => ?_)
  rcases ht with ⟨rfl, htw⟩ | ⟨rfl, htw, n7, n8⟩
  · obtain ⟨jb, ob⟩ := h2 htw
    have eb : pv S n (nI b) = S.1 38 jb := pv_some ob
    refine rl_has1 h4 hn ha2 hb2 (sp_on_lt oa) (sp_on_lt ob) oa ob ?_
    rw [← ea, ← eb]
    have fb : upd (upd (S.1 9) a (pv S n (nI a))) b (pv S n (nI b)) b = pv S n (nI b) := ug0 (g := fun i => pv S n (nI i))
    have fa : upd (upd (S.1 9) a (pv S n (nI a))) b (pv S n (nI b)) a = pv S n (nI a) := ug (g := fun i => pv S n (nI i)) pk_us
    generalize upd (upd (S.1 9) a (pv S n (nI a))) b (pv S n (nI b)) = f at fa fb ⊢
    by_cases c7 : op = 7
    · obtain ⟨t, ht, ht2⟩ := sp_m15 (pv S n (nI b))
      obtain ⟨jx, ox⟩ := h7 c7
      rw [ht2] at ox
      have ex : pv S n (nI t) = S.1 38 jx := pv_some ox
      refine rl_has2 h4 hn ha2 hb2 ht (sp_on_lt ox) (Or.inl ⟨c7, by rw [fb]; exact ht2⟩) ox ⟨rfl, rfl, _, rfl, ?_⟩
      rw [← ex, ht2, nI_clamp (by omega)]
      exact ⟨ug (g := fun i => pv S n (nI i)) fa, fun _ => ug (g := fun i => pv S n (nI i)) fb, fun _ => ug0 (g := fun i => pv S n (nI i)), fun q => absurd (c7.symm.trans q) (by decide)⟩
    · by_cases c8 : op = 8
      · obtain ⟨t, ht, ht2⟩ := sp_m15 (pv S n (nI a))
        obtain ⟨jx, ox⟩ := h8 c8
        rw [ht2] at ox
        have ex : pv S n (nI t) = S.1 38 jx := pv_some ox
        refine rl_has2 h4 hn ha2 hb2 ht (sp_on_lt ox) (Or.inr ⟨c8, by rw [fa]; exact ht2⟩) ox ⟨rfl, rfl, _, rfl, ?_⟩
        rw [← ex, ht2, nI_clamp (by omega)]
        exact ⟨ug (g := fun i => pv S n (nI i)) fa, fun _ => ug (g := fun i => pv S n (nI i)) fb, fun q => absurd q c7, fun _ => ug0 (g := fun i => pv S n (nI i))⟩
      · iterate 2 (refine mj_r_pure rfl rfl ?_)
        refine mj_r_icmp_eq rfl (fun z1 => absurd z1 (c7)) (fun z1 => ?_)
        iterate 2 (refine mj_r_pure rfl rfl ?_)
        refine mj_r_icmp_ne rfl (fun z2 => ?_) (fun z2 => absurd z2 (c8))
        refine mj_r_pure rfl rfl ?_
        exact mj_r_iret rfl rfl rfl ⟨rfl, rfl, f, rfl, fa, fun _ => fb, fun q => absurd q c7, fun q => absurd q c8⟩
  · refine rl_has0 h4 hn ha2 (sp_on_lt oa) oa n7 n8 ⟨rfl, rfl, _, rfl, ?_⟩ trivial
    exact ⟨by rw [pk_us, ea], fun q => absurd q htw, fun q => absurd q n7, fun q => absurd q n8⟩
set_option maxRecDepth 20000 in
set_option maxHeartbeats 4000000 in
theorem K_Ref_has_f (S : rf_S) (k a b nx n : Nat) (hk : k < 216) (ha : S.1 1 k = nI a) (ha2 : a < 16) (hb : S.1 2 k = nI b) (hb2 : b < 16) (hn : S.1 36 0 = nI n) (h4 : n ≤ 4) (hh : ¬ sp_has S k n) : mj_K me_Ref_hasCells [.ref 21, .int (nI k)] (rf_h S) nx 0 0 (fun r h' nx' => r = some (.int 0) ∧ nx = nx' ∧ ∃ f, h' = rf_h (sC S 9 f)) := by
  refine mj_K.of ok_Ref_hasCells ck_Ref_hasCells (Nat.le_of_ble_eq_true rfl) ?_
  unfold sp_has at hh
  rw [ha, hb] at hh
  generalize hop : S.1 0 k = op at hh
  have e9 : rf_h S = rf_h (sC S 9 (S.1 9)) := by rw [sC_self]
  refine rl_hasA hk hop ha hb (fun t ht => ?_)
  rcases on_dec S (nI a) n with oa | ⟨ja, hja, oa⟩
  · have oa2 : oI (sp_on S (nI a) n) = -1 := by rw [oa]; rfl
    iterate 2 (refine mj_r_pure rfl rfl ?_)
    refine mj_r_callV (ci := 10) (kc := 0) (ks := 0) rfl li_Ref_194 ck_Ref_onPaper iv_Ref_onPaper (by decide) rfl rfl (K_Ref_onPaper S _ nx n hn h4) rfl rfl (Nat.le_of_ble_eq_true rfl) ?_
    rintro _ _ _ ⟨rfl, rfl, rfl⟩ _
    rw [oa2]
    refine mj_r_if_lt rfl (fun z1 => ?_) (fun z1 => absurd z1 (fun q => q (by decide +kernel)))
    refine mj_r_pure rfl rfl ?_
    exact mj_r_iret rfl rfl rfl ⟨rfl, rfl, S.1 9, e9⟩
  · have ea : pv S n (nI a) = S.1 38 ja := pv_some oa
    rcases ht with ⟨rfl, htw⟩ | ⟨rfl, htw, n7, n8⟩
    · rcases on_dec S (nI b) n with ob | ⟨jb, hjb, ob⟩
      · have oa2 : oI (sp_on S (nI a) n) = nI ja := by rw [oa]; rfl
        have ob2 : oI (sp_on S (nI b) n) = -1 := by rw [ob]; rfl
        iterate 2 (refine mj_r_pure rfl rfl ?_)
        refine mj_r_callV (ci := 10) (kc := 0) (ks := 0) rfl li_Ref_194 ck_Ref_onPaper iv_Ref_onPaper (by decide) rfl rfl (K_Ref_onPaper S _ nx n hn h4) rfl rfl (Nat.le_of_ble_eq_true rfl) ?_
        rintro _ _ _ ⟨rfl, rfl, rfl⟩ _
        rw [oa2]
        refine mj_r_if_lt rfl (fun z1 => absurd z1 (nI_pos (by omega))) (fun z1 => ?_)
        refine mj_r_pure rfl rfl ?_
        refine mj_r_if_eq rfl (fun z2 => absurd z2 (by decide)) (fun z2 => ?_)
        iterate 2 (refine mj_r_pure rfl rfl ?_)
        refine mj_r_callV (ci := 10) (kc := 0) (ks := 0) rfl li_Ref_194 ck_Ref_onPaper iv_Ref_onPaper (by decide) rfl rfl (K_Ref_onPaper S _ nx n hn h4) rfl rfl (Nat.le_of_ble_eq_true rfl) ?_
        rintro _ _ _ ⟨rfl, rfl, rfl⟩ _
        rw [ob2]
        refine mj_r_if_ge rfl (fun z3 => absurd z3 (m1_neg)) (fun z3 => ?_)
        refine mj_r_pure rfl rfl ?_
        exact mj_r_iret rfl rfl rfl ⟨rfl, rfl, S.1 9, e9⟩
      · have eb : pv S n (nI b) = S.1 38 jb := pv_some ob
        refine rl_has1 h4 hn ha2 hb2 hja hjb oa ob ?_
        rw [← ea, ← eb]
        have fb : upd (upd (S.1 9) a (pv S n (nI a))) b (pv S n (nI b)) b = pv S n (nI b) := ug0 (g := fun i => pv S n (nI i))
        have fa : upd (upd (S.1 9) a (pv S n (nI a))) b (pv S n (nI b)) a = pv S n (nI a) := ug (g := fun i => pv S n (nI i)) pk_us
        generalize upd (upd (S.1 9) a (pv S n (nI a))) b (pv S n (nI b)) = f at fa fb ⊢
        by_cases c7 : op = 7
        · obtain ⟨t, ht, ht2⟩ := sp_m15 (pv S n (nI b))
          have ox : sp_on S (nI t) n = none := by
            rcases on_dec S (nI t) n with ox | ⟨jx, hjx, ox⟩
            · exact ox
            · exact absurd ⟨⟨ja, oa⟩, fun _ => ⟨jb, ob⟩, fun _ => ⟨jx, by rw [ht2]; exact ox⟩, fun q => absurd (c7.symm.trans q) (by decide)⟩ hh
          exact rl_has3 h4 hn ha2 hb2 ht (Or.inl ⟨c7, by rw [fb]; exact ht2⟩) ox ⟨rfl, rfl, f, rfl⟩
        · by_cases c8 : op = 8
          · obtain ⟨t, ht, ht2⟩ := sp_m15 (pv S n (nI a))
            have ox : sp_on S (nI t) n = none := by
              rcases on_dec S (nI t) n with ox | ⟨jx, hjx, ox⟩
              · exact ox
              · exact absurd ⟨⟨ja, oa⟩, fun _ => ⟨jb, ob⟩, fun q => absurd q c7, fun _ => ⟨jx, by rw [ht2]; exact ox⟩⟩ hh
            exact rl_has3 h4 hn ha2 hb2 ht (Or.inr ⟨c8, by rw [fa]; exact ht2⟩) ox ⟨rfl, rfl, f, rfl⟩
          · exact absurd ⟨⟨ja, oa⟩, fun _ => ⟨jb, ob⟩, fun q => absurd q c7, fun q => absurd q c8⟩ hh
    · exact absurd ⟨⟨ja, oa⟩, fun q => absurd q htw, fun q => absurd q n7, fun q => absurd q n8⟩ hh
def allB (p : Nat → Bool) : Nat → Bool
  | 0 => true
  | n + 1 => allB p n && p n
theorem allB_t {p : Nat → Bool} {n : Nat} : allB p n = true ↔ ∀ i, i < n → p i = true := by
  induction n with
  | zero => exact ⟨fun _ i h => absurd h (by omega), fun _ => rfl⟩
  | succ n ih =>
    show (allB p n && p n) = true ↔ _
    rw [Bool.and_eq_true, ih]
    constructor
    · intro h i hi
      by_cases e : i = n
      · rw [e]; exact h.2
      · exact h.1 i (by omega)
    · intro h
      exact ⟨fun i hi => h i (by omega), h n (by omega)⟩
def sp_way (S : rf_S) (i : Nat) : Bool := decide (sp_up S i (S.1 38 i) = S.2 35 0)
def sp_hasB (S : rf_S) (k n : Nat) : Bool :=
  (sp_on S (S.1 1 k) n).isSome && ((decide (S.1 0 k = 0) || (decide (S.1 0 k = 5) || decide (S.1 0 k = 9))) || (sp_on S (S.1 2 k) n).isSome) && (!decide (S.1 0 k = 7) || (sp_on S (pv S n (S.1 2 k) &&& 15) n).isSome) && (!decide (S.1 0 k = 8) || (sp_on S (pv S n (S.1 1 k) &&& 15) n).isSome)
theorem sp_hasB_iff (S : rf_S) (k n : Nat) : sp_hasB S k n = true ↔ sp_has S k n := by
  unfold sp_hasB sp_has tw
  simp only [Bool.and_eq_true, Bool.or_eq_true, decide_eq_true_eq, Bool.not_eq_true', decide_eq_false_iff_not, Option.isSome_iff_exists]
  constructor
  · rintro ⟨⟨⟨h1, h2⟩, h3⟩, h4⟩
    exact ⟨h1, fun q => h2.resolve_left (fun z => z.elim q.1 (fun z => z.elim q.2.1 q.2.2)), fun q => h3.resolve_left (fun z => z q), fun q => h4.resolve_left (fun z => z q)⟩
  · rintro ⟨h1, h2, h3, h4⟩
    refine ⟨⟨⟨h1, ?_⟩, ?_⟩, ?_⟩
    · by_cases a : S.1 0 k = 0
      · exact Or.inl (Or.inl a)
      · by_cases b : S.1 0 k = 5
        · exact Or.inl (Or.inr (Or.inl b))
        · by_cases c : S.1 0 k = 9
          · exact Or.inl (Or.inr (Or.inr c))
          · exact Or.inr (h2 ⟨a, b, c⟩)
    · by_cases a : S.1 0 k = 7
      · exact Or.inr (h3 a)
      · exact Or.inl a
    · by_cases a : S.1 0 k = 8
      · exact Or.inr (h4 a)
      · exact Or.inl a
/-- what the judge's step does: the cell that is written, what it has then, the place behind -/
def sp_jw (S : rf_S) (k n : Nat) : Int32 := if S.1 0 k = 8 then pv S n (S.1 1 k) &&& 15 else S.1 1 k
def sp_jv (S : rf_S) (k n : Nat) : Int32 := sp_val (S.1 0 k) (pv S n (S.1 1 k)) (pv S n (S.1 2 k)) (S.1 3 k) (pv S n (pv S n (S.1 2 k) &&& 15))
def sp_jn (S : rf_S) (k n : Nat) : Int64 := if S.1 0 k = 9 then S.2 35 0 else sp_up S ((sp_on S (sp_jw S k n) n).getD 0) (sp_jv S k n)
def sp_jb (S : rf_S) (k n : Nat) : Int32 := if S.1 0 k = 9 ∧ ¬ pv S n (S.1 1 k) = 0 then S.1 3 k else S.1 34 0 + 1
def sp_judge (S : rf_S) (b : Nat) (low high : Int64) (n : Nat) : Int32 :=
  if ¬ sp_mix (S.2 35 0) (S.1 34 0).toInt64 = low then 1
  else if allB (sp_way S) n = false then 2
  else if ¬ isN (S.1 34 0) (S.1 6 b) then (if low = high then 0 else 4)
  else if sp_hasB S (24 * b + (S.1 34 0).toNatClampNeg) n = false then 3
  else if sp_mix (sp_jn S (24 * b + (S.1 34 0).toNatClampNeg) n) (sp_jb S (24 * b + (S.1 34 0).toNatClampNeg) n).toInt64 = high then 0 else 4
theorem sp_val_t {op a b c t t' : Int32} (h : ¬ op = 7) : sp_val op a b c t = sp_val op a b c t' := by
  unfold sp_val
  rw [if_neg h, if_neg h]
theorem sp_val_b {op a b b' c t t' : Int32} (h : op = 0 ∨ op = 5) : sp_val op a b c t = sp_val op a b' c t' := by
  rcases h with rfl | rfl <;> rfl
theorem lg0 {x y : Int64} : lg_cmp x y = 0 ↔ x = y := lg_cmp_eq x y
/-- the paper's numbers are cells -/
def wf_Q (S : rf_S) (n : Nat) : Prop := S.1 36 0 = nI n ∧ n ≤ 4 ∧ ∀ i, ∃ k, k < 16 ∧ S.1 37 i = nI k
set_option maxRecDepth 20000 in
set_option maxHeartbeats 4000000 in
theorem rl_ways {Q : mj_post} {nx n : Nat} {b : Int32} {low high : Int64} {S : rf_S} (hq : wf_Q S n) (k2 : allB (sp_way S) n = false → Q.2 (some (.int 2)) (rf_h S) mj_0 nx) (k : allB (sp_way S) n = true → mj_W me_Ref_judge 70 [(0, .ref 21), (1, .int b), (2, .long low), (4, .long high)] [] (rf_h S) mj_0 nx 0 0 Q) : ∀ (d i : Nat), i + d = n → (∀ j, j < i → sp_way S j = true) → mj_W me_Ref_judge 32 [(0, .ref 21), (1, .int b), (2, .long low), (4, .long high), (6, .int (nI i))] [] (rf_h S) mj_0 nx 0 0 Q := by
  obtain ⟨hn, h4, hnum⟩ := hq
  intro d
  induction d with
  | zero =>
    intro i hi hw
    have e : i = n := by omega
    subst e
    iterate 2 (refine mj_r_pure rfl rfl ?_)
    refine rr_get rfl rfl rfl ?_
    refine mj_r_icmp_ge rfl (fun c1 => ?_) (fun c1 => absurd c1 (fun q => q (by rw [hn]; exact nI_le (Nat.le_refl _) (by omega))))
    exact mj_W.fewer [0, 1, 2, 4] rfl (k (allB_t.mpr hw))
  | succ d ih =>
    intro i hi hw
    obtain ⟨num, hnum1, hnum2⟩ := hnum i
    iterate 2 (refine mj_r_pure rfl rfl ?_)
    refine rr_get rfl rfl rfl ?_
    refine mj_r_icmp_ge rfl (fun c1 => absurd c1 (by rw [hn]; exact nI_ge (by omega) (by omega))) (fun c1 => ?_)
    iterate 3 (refine mj_r_pure rfl rfl ?_)
    refine rr_get rfl rfl rfl ?_
    refine mj_r_pure rfl rfl ?_
    refine rx_iald rfl rfl (by first | rfl | assumption) (by omega) ?_
    refine mj_r_callV (ci := 10) (kc := 0) (ks := 0) rfl li_Ref_197 ck_Ref_upFrom iv_Ref_upFrom (by decide) rfl rfl (K_Ref_upFrom S i _ nx num (by omega) hnum2 hnum1) rfl rfl (Nat.le_of_ble_eq_true rfl) ?_
    rintro _ _ _ ⟨rfl, rfl, rfl⟩ _
    refine mj_r_pure rfl rfl ?_
    refine rr_get rfl rfl rfl ?_
    refine mj_r_pure rfl rfl ?_
    refine mj_r_if_eq rfl (fun c2 => ?_) (fun c2 => ?_)
    · iterate 2 (refine mj_r_pure rfl rfl ?_)
      rw [nI_1]; exact ih (i + 1) (by omega) (fun j hj => by by_cases e : j = i; (subst e; exact decide_eq_true (lg0.mp c2)); exact hw j (by omega))
    · refine mj_r_pure rfl rfl ?_
      exact mj_r_iret rfl rfl rfl (k2 (by cases h : allB (sp_way S) n with | false => rfl | true => exact absurd (lg0.mpr (of_decide_eq_true (allB_t.mp h i (by omega)))) c2))
