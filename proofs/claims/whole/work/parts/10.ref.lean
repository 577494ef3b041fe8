/-! THE REFERENCE: its state S: S.1 p the ints of its field p (an array, or at 0 a number), S.2 p the longs; its heap, whole -/
abbrev rf_S : Type := (Nat → Nat → Int32) × (Nat → Nat → Int64)
def rf_it : List (Nat × Nat × Nat) := [(22, 0, 216), (23, 1, 216), (24, 2, 216), (25, 3, 216), (26, 6, 8), (27, 7, 32), (28, 8, 8), (29, 9, 16), (31, 14, 8), (32, 16, 40), (33, 17, 40), (35, 19, 40), (36, 20, 40), (37, 22, 80), (38, 23, 80), (39, 24, 80), (40, 25, 80), (41, 26, 80), (45, 30, 80), (46, 31, 80), (47, 32, 80), (48, 33, 80), (49, 37, 4), (50, 38, 4)]
def rf_jt : List (Nat × Nat × Nat) := [(30, 12, 32), (34, 18, 40), (42, 27, 80), (43, 28, 80), (44, 29, 80), (51, 39, 16)]
def rf_si : List Nat := [4, 5, 10, 11, 13, 15, 21, 34, 36]
def rf_sj : List Nat := [35]
def rf_look : List (Nat × Nat × Nat) → Nat → Option (Nat × Nat)
  | [], _ => none
  | e :: t, a => cond (Nat.beq e.1 a) (some e.2) (rf_look t a)
theorem rf_look_mem {t : List (Nat × Nat × Nat)} {a : Nat} {x : Nat × Nat} (h : rf_look t a = some x) : (a, x) ∈ t := by
  induction t with
  | nil => cases h
  | cons e t ih =>
    unfold rf_look at h
    cases hb : Nat.beq e.1 a with
    | true =>
      rw [hb] at h
      have e1 : e.1 = a := Nat.eq_of_beq_eq_true hb
      have e2 : e.2 = x := Option.some.inj h
      rw [← e1, ← e2]
      exact List.mem_cons_self
    | false =>
      rw [hb] at h
      exact List.mem_cons_of_mem _ (ih h)
def rf_fl (S : rf_S) : List Value := [.ref 22, .ref 23, .ref 24, .ref 25, .int (S.1 4 0), .int (S.1 5 0), .ref 26, .ref 27, .ref 28, .ref 29, .int (S.1 10 0), .int (S.1 11 0), .ref 30, .int (S.1 13 0), .ref 31, .int (S.1 15 0), .ref 32, .ref 33, .ref 34, .ref 35, .ref 36, .int (S.1 21 0), .ref 37, .ref 38, .ref 39, .ref 40, .ref 41, .ref 42, .ref 43, .ref 44, .ref 45, .ref 46, .ref 47, .ref 48, .int (S.1 34 0), .long (S.2 35 0), .int (S.1 36 0), .ref 49, .ref 50, .ref 51]
def rf_h (S : rf_S) : mj_H := (fun c a => cond (Nat.beq c 10) (cond (Nat.beq a 21) (some (rf_fl S)) none) none, fun a => match rf_look rf_it a with | some (p, N) => some (N, S.1 p) | none => none, fun a => match rf_look rf_jt a with | some (p, N) => some (N, S.2 p) | none => none, fun _ _ => none)
def sA (S : rf_S) (p j : Nat) (v : Int32) : rf_S := (fun q => cond (Nat.beq q p) (upd (S.1 p) j v) (S.1 q), S.2)
def sL (S : rf_S) (p j : Nat) (v : Int64) : rf_S := (S.1, fun q => cond (Nat.beq q p) (vp_updL (S.2 p) j v) (S.2 q))
def sI (S : rf_S) (p : Nat) (v : Int32) : rf_S := (fun q => cond (Nat.beq q p) (fun _ => v) (S.1 q), S.2)
def sJ (S : rf_S) (p : Nat) (v : Int64) : rf_S := (S.1, fun q => cond (Nat.beq q p) (fun _ => v) (S.2 q))
theorem rf_beq_ne {a b : Nat} (h : a ≠ b) : Nat.beq a b = false := by
  cases hb : Nat.beq a b with
  | false => rfl
  | true => exact absurd (Nat.eq_of_beq_eq_true hb) h
theorem rf_beq_self (a : Nat) : Nat.beq a a = true := Nat.beq_refl a
theorem rf_it_ok : ∀ e ∈ rf_it, ∀ q ∈ rf_si, Nat.beq q e.2.1 = false := by decide +kernel
theorem rf_jt_ok : ∀ e ∈ rf_jt, ∀ q ∈ rf_sj, Nat.beq q e.2.1 = false := by decide +kernel
theorem rf_it_inj : ∀ e ∈ rf_it, ∀ e' ∈ rf_it, e.2.1 = e'.2.1 → e = e' := by decide +kernel
theorem rf_jt_inj : ∀ e ∈ rf_jt, ∀ e' ∈ rf_jt, e.2.1 = e'.2.1 → e = e' := by decide +kernel
theorem rf_si_no : ∀ q ∈ rf_si, ∀ e ∈ rf_it, Nat.beq e.2.1 q = false := by decide +kernel
theorem rf_sj_no : ∀ q ∈ rf_sj, ∀ e ∈ rf_jt, Nat.beq e.2.1 q = false := by decide +kernel
theorem rf_hoI {S : rf_S} {a p N : Nat} (hk : rf_look rf_it a = some (p, N)) : (rf_h S).2.1 a = some (N, S.1 p) := by
  show (match rf_look rf_it a with | some (p, N) => some (N, S.1 p) | none => none) = _
  rw [hk]
theorem rf_hoJ {S : rf_S} {a p N : Nat} (hk : rf_look rf_jt a = some (p, N)) : (rf_h S).2.2.1 a = some (N, S.2 p) := by
  show (match rf_look rf_jt a with | some (p, N) => some (N, S.2 p) | none => none) = _
  rw [hk]
theorem rf_setI {S : rf_S} {a p N j : Nat} {v : Int32} (hk : rf_look rf_it a = some (p, N)) : mj_si (rf_h S) a N (upd (S.1 p) j v) = rf_h (sA S p j v) := by
  have hm := rf_look_mem hk
  have hs := rf_it_ok _ hm
  have hfl : rf_fl (sA S p j v) = rf_fl S := by
    simp only [rf_fl, sA, hs 4 (by decide), hs 5 (by decide), hs 10 (by decide), hs 11 (by decide), hs 13 (by decide), hs 15 (by decide), hs 21 (by decide), hs 34 (by decide), hs 36 (by decide), cond]
  refine Prod.ext ?_ (Prod.ext ?_ (Prod.ext rfl rfl))
  · show (rf_h S).1 = (rf_h (sA S p j v)).1
    unfold rf_h
    dsimp only
    rw [hfl]
  · funext q
    show (if q = a then some (N, upd (S.1 p) j v) else (rf_h S).2.1 q) = (rf_h (sA S p j v)).2.1 q
    by_cases hq : q = a
    · subst hq
      rw [if_pos rfl, rf_hoI hk]
      simp [sA]
    · rw [if_neg hq]
      show (match rf_look rf_it q with | some (p, N) => some (N, S.1 p) | none => none) = (match rf_look rf_it q with | some (p', N) => some (N, (sA S p j v).1 p') | none => none)
      cases hl : rf_look rf_it q with
      | none => rfl
      | some x =>
        obtain ⟨p', N'⟩ := x
        have hp : p' ≠ p := fun z => hq (by
          have := rf_it_inj _ (rf_look_mem hl) _ hm z
          exact congrArg Prod.fst this)
        simp [sA, rf_beq_ne hp]
theorem rf_setJ {S : rf_S} {a p N j : Nat} {v : Int64} (hk : rf_look rf_jt a = some (p, N)) : mj_sl (rf_h S) a N (vp_updL (S.2 p) j v) = rf_h (sL S p j v) := by
  have hm := rf_look_mem hk
  have hs := rf_jt_ok _ hm
  have hfl : rf_fl (sL S p j v) = rf_fl S := by
    simp only [rf_fl, sL, hs 35 (by decide), cond]
  refine Prod.ext ?_ (Prod.ext rfl (Prod.ext ?_ rfl))
  · show (rf_h S).1 = (rf_h (sL S p j v)).1
    unfold rf_h
    dsimp only
    rw [hfl]
  · funext q
    show (if q = a then some (N, vp_updL (S.2 p) j v) else (rf_h S).2.2.1 q) = (rf_h (sL S p j v)).2.2.1 q
    by_cases hq : q = a
    · subst hq
      rw [if_pos rfl, rf_hoJ hk]
      simp [sL]
    · rw [if_neg hq]
      show (match rf_look rf_jt q with | some (p, N) => some (N, S.2 p) | none => none) = (match rf_look rf_jt q with | some (p', N) => some (N, (sL S p j v).2 p') | none => none)
      cases hl : rf_look rf_jt q with
      | none => rfl
      | some x =>
        obtain ⟨p', N'⟩ := x
        have hp : p' ≠ p := fun z => hq (by
          have := rf_jt_inj _ (rf_look_mem hl) _ hm z
          exact congrArg Prod.fst this)
        simp [sL, rf_beq_ne hp]
theorem rf_so {S S' : rf_S} (h1 : ∀ a p N, rf_look rf_it a = some (p, N) → S'.1 p = S.1 p) (h2 : ∀ a p N, rf_look rf_jt a = some (p, N) → S'.2 p = S.2 p) : mj_so (rf_h S) 10 21 (rf_fl S') = rf_h S' := by
  refine Prod.ext ?_ (Prod.ext ?_ (Prod.ext ?_ rfl))
  · funext c q
    show (if c = 10 then (if q = 21 then some (rf_fl S') else (rf_h S).1 c q) else (rf_h S).1 c q) = (rf_h S').1 c q
    by_cases hc : c = 10
    · subst hc
      by_cases hq : q = 21
      · subst hq; rfl
      · rw [if_pos rfl, if_neg hq]
        show cond (Nat.beq 10 10) (cond (Nat.beq q 21) _ none) none = cond (Nat.beq 10 10) (cond (Nat.beq q 21) _ none) none
        rw [rf_beq_ne hq]
        rfl
    · rw [if_neg hc]
      show cond (Nat.beq c 10) _ none = cond (Nat.beq c 10) _ none
      rw [rf_beq_ne hc]
      rfl
  · funext q
    show (match rf_look rf_it q with | some (p, N) => some (N, S.1 p) | none => none) = (match rf_look rf_it q with | some (p', N) => some (N, S'.1 p') | none => none)
    cases hl : rf_look rf_it q with
    | none => rfl
    | some x =>
      obtain ⟨p', N'⟩ := x
      dsimp only
      rw [h1 q p' N' hl]
  · funext q
    show (match rf_look rf_jt q with | some (p, N) => some (N, S.2 p) | none => none) = (match rf_look rf_jt q with | some (p', N) => some (N, S'.2 p') | none => none)
    cases hl : rf_look rf_jt q with
    | none => rfl
    | some x =>
      obtain ⟨p', N'⟩ := x
      dsimp only
      rw [h2 q p' N' hl]
theorem rf_soI {S : rf_S} {p : Nat} {v : Int32} (hp : p ∈ rf_si) : mj_so (rf_h S) 10 21 (rf_fl (sI S p v)) = rf_h (sI S p v) := rf_so (fun a p' N h => by
  show cond (Nat.beq p' p) _ (S.1 p') = _
  rw [rf_si_no p hp _ (rf_look_mem h)]
  rfl) (fun _ _ _ _ => rfl)
theorem rf_soJ {S : rf_S} {p : Nat} {v : Int64} (hp : p ∈ rf_sj) : mj_so (rf_h S) 10 21 (rf_fl (sJ S p v)) = rf_h (sJ S p v) := rf_so (fun _ _ _ _ => rfl) (fun a p' N h => by
  show cond (Nat.beq p' p) _ (S.2 p') = _
  rw [rf_sj_no p hp _ (rf_look_mem h)]
  rfl)
theorem rf_lsI {S : rf_S} {p : Nat} {v : Int32} (hp : p ∈ rf_si) : mj_ls (rf_fl S) p (.int v) = some (rf_fl (sI S p v)) := by
  simp only [rf_si, List.mem_cons, List.not_mem_nil, or_false] at hp
  rcases hp with rfl | rfl | rfl | rfl | rfl | rfl | rfl | rfl | rfl <;> rfl
theorem rf_lsJ {S : rf_S} {p : Nat} {v : Int64} (hp : p ∈ rf_sj) : mj_ls (rf_fl S) p (.long v) = some (rf_fl (sJ S p v)) := by
  simp only [rf_sj, List.mem_cons, List.not_mem_nil, or_false] at hp
  rcases hp with rfl <;> rfl
theorem rf_kI {p : Nat} (hp : p ∈ rf_si) : mj_kf 10 p = some (0, false) := by
  simp only [rf_si, List.mem_cons, List.not_mem_nil, or_false] at hp
  rcases hp with rfl | rfl | rfl | rfl | rfl | rfl | rfl | rfl | rfl <;> rfl
theorem rf_kJ {p : Nat} (hp : p ∈ rf_sj) : mj_kf 10 p = some (1, false) := by
  simp only [rf_sj, List.mem_cons, List.not_mem_nil, or_false] at hp
  rcases hp with rfl <;> rfl
section RR
variable {M : mj_M} {Q : mj_post} {pc len n : Nat} {x : Value} {lv lv' : List (Nat × Value)} {st r : List Value} {g : mj_H} {nx kc ks : Nat} {S : rf_S}
theorem rr_iald {a p N j : Nat} {i : Int32} (hd : mj_find (mj_tab M) pc = some (.iaload, 1, x, n)) (hk : rf_look rf_it a = some (p, N)) (hi : vp_in i N) (hj : i.toNatClampNeg = j) (kk : mj_W M n lv (.int (S.1 p j) :: r) (rf_h S) g nx kc ks Q) : mj_W M pc lv (.int i :: .ref a :: r) (rf_h S) g nx kc ks Q := mj_r_iald hd (rf_hoI hk) hi hj kk
theorem rr_lald {a p N j : Nat} {i : Int32} (hd : mj_find (mj_tab M) pc = some (.laload, 1, x, n)) (hk : rf_look rf_jt a = some (p, N)) (hi : vp_in i N) (hj : i.toNatClampNeg = j) (kk : mj_W M n lv (.long (S.2 p j) :: r) (rf_h S) g nx kc ks Q) : mj_W M pc lv (.int i :: .ref a :: r) (rf_h S) g nx kc ks Q := mj_r_lald hd (rf_hoJ hk) hi hj kk
theorem rr_iast {a p N j : Nat} {i v : Int32} (hd : mj_find (mj_tab M) pc = some (.iastore, 1, x, n)) (hk : rf_look rf_it a = some (p, N)) (hi : vp_in i N) (hj : i.toNatClampNeg = j) (kk : mj_W M n lv r (rf_h (sA S p j v)) g nx kc ks Q) : mj_W M pc lv (.int v :: .int i :: .ref a :: r) (rf_h S) g nx kc ks Q := mj_r_iast hd (rf_hoI hk) hi hj (by rw [rf_setI hk]; exact kk)
theorem rr_last {a p N j : Nat} {i : Int32} {v : Int64} (hd : mj_find (mj_tab M) pc = some (.lastore, 1, x, n)) (hk : rf_look rf_jt a = some (p, N)) (hi : vp_in i N) (hj : i.toNatClampNeg = j) (kk : mj_W M n lv r (rf_h (sL S p j v)) g nx kc ks Q) : mj_W M pc lv (.long v :: .int i :: .ref a :: r) (rf_h S) g nx kc ks Q := mj_r_last hd (rf_hoJ hk) hi hj (by rw [rf_setJ hk]; exact kk)
theorem rr_get {idx p : Nat} {v : Value} (hd : mj_find (mj_tab M) pc = some (.getfield idx, 3, x, n)) (hf : mj_ff (mj_fl M) idx = some (false, 10, p)) (hv : (rf_fl S)[p]? = some v) (kk : mj_W M n lv (v :: r) (rf_h S) g nx kc ks Q) : mj_W M pc lv (.ref 21 :: r) (rf_h S) g nx kc ks Q := mj_r_getf hd hf rfl hv kk
theorem rr_putI {idx p : Nat} {v : Int32} (hd : mj_find (mj_tab M) pc = some (.putfield idx, 3, x, n)) (hf : mj_ff (mj_fl M) idx = some (false, 10, p)) (hp : p ∈ rf_si) (kk : mj_W M n lv r (rf_h (sI S p v)) g nx kc ks Q) : mj_W M pc lv (.int v :: .ref 21 :: r) (rf_h S) g nx kc ks Q := mj_r_putf hd hf rfl (rf_kI hp) (Or.inl rfl) rfl (rf_lsI hp) (by rw [rf_soI hp]; exact kk)
theorem rr_putJ {idx p : Nat} {v : Int64} (hd : mj_find (mj_tab M) pc = some (.putfield idx, 3, x, n)) (hf : mj_ff (mj_fl M) idx = some (false, 10, p)) (hp : p ∈ rf_sj) (kk : mj_W M n lv r (rf_h (sJ S p v)) g nx kc ks Q) : mj_W M pc lv (.long v :: .ref 21 :: r) (rf_h S) g nx kc ks Q := mj_r_putf hd hf rfl (rf_kJ hp) (Or.inl rfl) rfl (rf_lsJ hp) (by rw [rf_soJ hp]; exact kk)
end RR
