/-! THE SMALL MACHINE: one judgement over the kit's W. A heap is four pools: objects by class and number, int arrays, long arrays, arrays of references by class; the cell of number a lies at the address B + a; B is the heap's size at the law's entry. -/
abbrev mj_H : Type := (Nat → Nat → Option (List Value)) × (Nat → Option (Nat × (Nat → Int32))) × (Nat → Option (Nat × (Nat → Int64))) × (Nat → Nat → Option (Nat × (Nat → Option Nat)))
def mj_0 : mj_H := (fun _ _ => none, fun _ => none, fun _ => none, fun _ _ => none)
/-- B, the script's address, its length, its ints, class numbers and slots, array classes -/
abbrev mj_E : Type := Nat × Nat × Nat × (Nat → Int32) × (Nat → ClassId) × (Nat → Nat → Nat) × (Nat → ClassId)
abbrev mj_B (E : mj_E) : Nat := E.1
abbrev mj_b (E : mj_E) : Nat := E.2.1
abbrev mj_len (E : mj_E) : Nat := E.2.2.1
abbrev mj_xs (E : mj_E) : Nat → Int32 := E.2.2.2.1
abbrev mj_D (E : mj_E) : va_G := (E.2.2.2.2.1, E.2.2.2.2.2.1)
abbrev mj_A (E : mj_E) : Nat → ClassId := E.2.2.2.2.2.2
/-- a value as the machine has it; .retAddr stands for the law's script -/
def mj_v (E : mj_E) : Value → Value
  | .ref a => .ref (mj_B E + a)
  | .retAddr _ => .ref (mj_b E)
  | .int x => .int x
  | .long x => .long x
  | .float x => .float x
  | .double x => .double x
  | .null => .null
theorem mj_v_cat (E : mj_E) (v : Value) : (mj_v E v).category = v.category := by cases v <;> rfl
theorem mj_v_rf (E : mj_E) (r : Option Nat) : mj_v E (va_rf r) = va_rf (r.map (mj_B E + ·)) := by cases r <;> rfl
def mj_so (h : mj_H) (ci a : Nat) (fs : List Value) : mj_H := (fun c q => if c = ci then (if q = a then some fs else h.1 c q) else h.1 c q, h.2)
def mj_si (h : mj_H) (a n : Nat) (f : Nat → Int32) : mj_H := (h.1, fun q => if q = a then some (n, f) else h.2.1 q, h.2.2)
def mj_sl (h : mj_H) (a n : Nat) (f : Nat → Int64) : mj_H := (h.1, h.2.1, fun q => if q = a then some (n, f) else h.2.2.1 q, h.2.2.2)
def mj_sr (h : mj_H) (ci a n : Nat) (f : Nat → Option Nat) : mj_H := (h.1, h.2.1, h.2.2.1, fun c q => if c = ci then (if q = a then some (n, f) else h.2.2.2 c q) else h.2.2.2 c q)
/-- the numbers that a heap has -/
def mj_d (h : mj_H) (a : Nat) : Prop := (∃ ci fs, h.1 ci a = some fs) ∨ (∃ x, h.2.1 a = some x) ∨ (∃ x, h.2.2.1 a = some x) ∨ ∃ ci x, h.2.2.2 ci a = some x
def mj_ao : List Nat := [0, 1, 3, 4, 6]
def mj_cn (ci : Nat) : String := match mj_cl[ci]? with
  | some r => r.1
  | none => ""
def mj_ty (E : mj_E) : List (ClassId × FieldType) := [(mj_A E 0, .int), (mj_A E 1, .long), (mj_A E 2, .object RX0), (mj_A E 3, .object RX1), (mj_A E 5, .object RX3), (mj_A E 6, .object RX4), (mj_A E 8, .object RX6)]
theorem mj_ty_ao (E : mj_E) {ci : Nat} (h : ci ∈ mj_ao) : ∃ t0 : Nat, (mj_ty E)[t0]? = some (mj_A E (2 + ci), FieldType.object (mj_cn ci)) := by
  simp only [mj_ao, List.mem_cons, List.not_mem_nil, or_false] at h
  rcases h with rfl | rfl | rfl | rfl | rfl
  · exact ⟨2, rfl⟩
  · exact ⟨3, rfl⟩
  · exact ⟨4, rfl⟩
  · exact ⟨5, rfl⟩
  · exact ⟨6, rfl⟩
/-- the heap is there -/
def mj_R (E : mj_E) (h : mj_H) (nx : Nat) (H : Heap) : Prop := ∃ kd : Nat → Nat,
  (∀ ci a fs, h.1 ci a = some fs → kd a = 4 * ci ∧ a < nx ∧ (∃ r : vw_C, mj_cl[ci]? = some r ∧ fs.length = r.2.2) ∧ va_at (mj_D E) mj_cl (mj_B E + a, .inr (ci, fs.map (mj_v E))) H) ∧
  (∀ a n f, h.2.1 a = some (n, f) → kd a = 1 ∧ a < nx ∧ H[mj_B E + a]? = some (vp_cell (mj_A E 0) (n, .inl f))) ∧
  (∀ a n f, h.2.2.1 a = some (n, f) → kd a = 2 ∧ a < nx ∧ H[mj_B E + a]? = some (vp_cell (mj_A E 1) (n, .inr (.inl f)))) ∧
  (∀ ci a n f, h.2.2.2 ci a = some (n, f) → kd a = 4 * ci + 3 ∧ a < nx ∧ ci ∈ mj_ao ∧ H[mj_B E + a]? = some (vp_cell (mj_A E (2 + ci)) (n, .inr (.inr (.inr (.inr (fun j => (f j).map (mj_B E + ·))))))))
theorem mj_R.lt {E : mj_E} {h : mj_H} {nx : Nat} {H : Heap} (hR : mj_R E h nx H) {a : Nat} (hd : mj_d h a) : a < nx := by
  obtain ⟨kd, h1, h2, h3, h4⟩ := hR
  rcases hd with ⟨ci, fs, hq⟩ | ⟨⟨n, f⟩, hq⟩ | ⟨⟨n, f⟩, hq⟩ | ⟨ci, ⟨n, f⟩, hq⟩
  · exact (h1 ci a fs hq).2.1
  · exact (h2 a n f hq).2.1
  · exact (h3 a n f hq).2.1
  · exact (h4 ci a n f hq).2.1
/-- what isn't touched stays there -/
theorem mj_R.kept {E : mj_E} {h : mj_H} {nx nx1 : Nat} {H H1 : Heap} (hR : mj_R E h nx H) (hn : nx ≤ nx1) (hk : ∀ a, mj_d h a → H1[mj_B E + a]? = H[mj_B E + a]?) : mj_R E h nx1 H1 := by
  obtain ⟨kd, h1, h2, h3, h4⟩ := hR
  refine ⟨kd, fun ci a fs hq => ?_, fun a n f hq => ?_, fun a n f hq => ?_, fun ci a n f hq => ?_⟩
  · obtain ⟨a1, a2, a3, a4⟩ := h1 ci a fs hq
    exact ⟨a1, by omega, a3, a4.kept (hk a (Or.inl ⟨ci, fs, hq⟩))⟩
  · obtain ⟨a1, a2, a3⟩ := h2 a n f hq
    exact ⟨a1, by omega, (hk a (Or.inr (Or.inl ⟨_, hq⟩))).trans a3⟩
  · obtain ⟨a1, a2, a3⟩ := h3 a n f hq
    exact ⟨a1, by omega, (hk a (Or.inr (Or.inr (Or.inl ⟨_, hq⟩)))).trans a3⟩
  · obtain ⟨a1, a2, a3, a4⟩ := h4 ci a n f hq
    exact ⟨a1, by omega, a3, (hk a (Or.inr (Or.inr (Or.inr ⟨ci, _, hq⟩)))).trans a4⟩
theorem mj_d_so {h : mj_H} {ci a : Nat} {fs : List Value} {q : Nat} (hd : mj_d (mj_so h ci a fs) q) : mj_d h q ∨ q = a := by
  rcases hd with ⟨cj, gs, hq⟩ | hq | hq | hq
  · simp only [mj_so] at hq
    split at hq
    · split at hq
      · exact Or.inr (by assumption)
      · exact Or.inl (Or.inl ⟨_, _, hq⟩)
    · exact Or.inl (Or.inl ⟨_, _, hq⟩)
  · exact Or.inl (Or.inr (Or.inl hq))
  · exact Or.inl (Or.inr (Or.inr (Or.inl hq)))
  · exact Or.inl (Or.inr (Or.inr (Or.inr hq)))
theorem mj_d_si {h : mj_H} {a n : Nat} {f : Nat → Int32} {q : Nat} (hd : mj_d (mj_si h a n f) q) : mj_d h q ∨ q = a := by
  rcases hd with hq | ⟨x, hq⟩ | hq | hq
  · exact Or.inl (Or.inl hq)
  · simp only [mj_si] at hq
    split at hq
    · exact Or.inr (by assumption)
    · exact Or.inl (Or.inr (Or.inl ⟨_, hq⟩))
  · exact Or.inl (Or.inr (Or.inr (Or.inl hq)))
  · exact Or.inl (Or.inr (Or.inr (Or.inr hq)))
theorem mj_d_sl {h : mj_H} {a n : Nat} {f : Nat → Int64} {q : Nat} (hd : mj_d (mj_sl h a n f) q) : mj_d h q ∨ q = a := by
  rcases hd with hq | hq | ⟨x, hq⟩ | hq
  · exact Or.inl (Or.inl hq)
  · exact Or.inl (Or.inr (Or.inl hq))
  · simp only [mj_sl] at hq
    split at hq
    · exact Or.inr (by assumption)
    · exact Or.inl (Or.inr (Or.inr (Or.inl ⟨_, hq⟩)))
  · exact Or.inl (Or.inr (Or.inr (Or.inr hq)))
theorem mj_d_sr {h : mj_H} {ci a n : Nat} {f : Nat → Option Nat} {q : Nat} (hd : mj_d (mj_sr h ci a n f) q) : mj_d h q ∨ q = a := by
  rcases hd with hq | hq | hq | ⟨cj, x, hq⟩
  · exact Or.inl (Or.inl hq)
  · exact Or.inl (Or.inr (Or.inl hq))
  · exact Or.inl (Or.inr (Or.inr (Or.inl hq)))
  · simp only [mj_sr] at hq
    split at hq
    · split at hq
      · exact Or.inr (by assumption)
      · exact Or.inl (Or.inr (Or.inr (Or.inr ⟨_, _, hq⟩)))
    · exact Or.inl (Or.inr (Or.inr (Or.inr ⟨_, _, hq⟩)))
/-- a cell of number a is written (it was there, of this kind, or is new): the others stay -/
theorem mj_R.so {E : mj_E} {h : mj_H} {nx nx1 : Nat} {H H1 : Heap} (hR : mj_R E h nx H) {ci a : Nat} {fs : List Value} (hn : nx ≤ nx1) (ha : a < nx1) (hold : (∃ gs, h.1 ci a = some gs) ∨ nx ≤ a) (hr : ∃ r : vw_C, mj_cl[ci]? = some r ∧ fs.length = r.2.2)
    (hc : va_at (mj_D E) mj_cl (mj_B E + a, .inr (ci, fs.map (mj_v E))) H1) (ho : ∀ q, q < nx → q ≠ a → H1[mj_B E + q]? = H[mj_B E + q]?) : mj_R E (mj_so h ci a fs) nx1 H1 := by
  obtain ⟨kd, h1, h2, h3, h4⟩ := hR
  have hk : ∀ q, q < nx → (kd q ≠ 4 * ci) → q ≠ a := fun q hq hne e => by
    subst e
    rcases hold with ⟨gs, hg⟩ | hg
    · exact hne (h1 _ _ _ hg).1
    · omega
  refine ⟨fun q => if q = a then 4 * ci else kd q, fun cj q gs hq => ?_, fun q n f hq => ?_, fun q n f hq => ?_, fun cj q n f hq => ?_⟩
  · simp only [mj_so] at hq
    by_cases e1 : cj = ci
    · rw [if_pos e1] at hq
      by_cases e2 : q = a
      · rw [if_pos e2] at hq
        cases hq
        subst e1; subst e2
        exact ⟨if_pos rfl, ha, hr, hc⟩
      · rw [if_neg e2] at hq
        obtain ⟨a1, a2, a3, a4⟩ := h1 cj q gs hq
        exact ⟨(if_neg e2).trans a1, by omega, a3, a4.kept (ho q a2 e2)⟩
    · rw [if_neg e1] at hq
      obtain ⟨a1, a2, a3, a4⟩ := h1 cj q gs hq
      have e2 := hk q a2 (by omega)
      exact ⟨(if_neg e2).trans a1, by omega, a3, a4.kept (ho q a2 e2)⟩
  · obtain ⟨a1, a2, a3⟩ := h2 q n f hq
    have e2 := hk q a2 (by omega)
    exact ⟨(if_neg e2).trans a1, by omega, (ho q a2 e2).trans a3⟩
  · obtain ⟨a1, a2, a3⟩ := h3 q n f hq
    have e2 := hk q a2 (by omega)
    exact ⟨(if_neg e2).trans a1, by omega, (ho q a2 e2).trans a3⟩
  · obtain ⟨a1, a2, a3, a4⟩ := h4 cj q n f hq
    have e2 := hk q a2 (by omega)
    exact ⟨(if_neg e2).trans a1, by omega, a3, (ho q a2 e2).trans a4⟩
theorem mj_R.si {E : mj_E} {h : mj_H} {nx nx1 : Nat} {H H1 : Heap} (hR : mj_R E h nx H) {a n : Nat} {f : Nat → Int32} (hn : nx ≤ nx1) (ha : a < nx1) (hold : (∃ gs, h.2.1 a = some gs) ∨ nx ≤ a)
    (hc : H1[mj_B E + a]? = some (vp_cell (mj_A E 0) (n, .inl f))) (ho : ∀ q, q < nx → q ≠ a → H1[mj_B E + q]? = H[mj_B E + q]?) : mj_R E (mj_si h a n f) nx1 H1 := by
  obtain ⟨kd, h1, h2, h3, h4⟩ := hR
  have hk : ∀ q, q < nx → (kd q ≠ 1) → q ≠ a := fun q hq hne e => by
    subst e
    rcases hold with ⟨⟨n', f'⟩, hg⟩ | hg
    · exact hne (h2 _ _ _ hg).1
    · omega
  refine ⟨fun q => if q = a then 1 else kd q, fun cj q gs hq => ?_, fun q n' f' hq => ?_, fun q n' f' hq => ?_, fun cj q n' f' hq => ?_⟩
  · obtain ⟨a1, a2, a3, a4⟩ := h1 cj q gs hq
    have e2 := hk q a2 (by omega)
    exact ⟨(if_neg e2).trans a1, by omega, a3, a4.kept (ho q a2 e2)⟩
  · simp only [mj_si] at hq
    by_cases e2 : q = a
    · rw [if_pos e2] at hq
      cases hq
      subst e2
      exact ⟨if_pos rfl, ha, hc⟩
    · rw [if_neg e2] at hq
      obtain ⟨a1, a2, a3⟩ := h2 q n' f' hq
      exact ⟨(if_neg e2).trans a1, by omega, (ho q a2 e2).trans a3⟩
  · obtain ⟨a1, a2, a3⟩ := h3 q n' f' hq
    have e2 := hk q a2 (by omega)
    exact ⟨(if_neg e2).trans a1, by omega, (ho q a2 e2).trans a3⟩
  · obtain ⟨a1, a2, a3, a4⟩ := h4 cj q n' f' hq
    have e2 := hk q a2 (by omega)
    exact ⟨(if_neg e2).trans a1, by omega, a3, (ho q a2 e2).trans a4⟩
theorem mj_R.sl {E : mj_E} {h : mj_H} {nx nx1 : Nat} {H H1 : Heap} (hR : mj_R E h nx H) {a n : Nat} {f : Nat → Int64} (hn : nx ≤ nx1) (ha : a < nx1) (hold : (∃ gs, h.2.2.1 a = some gs) ∨ nx ≤ a)
    (hc : H1[mj_B E + a]? = some (vp_cell (mj_A E 1) (n, .inr (.inl f)))) (ho : ∀ q, q < nx → q ≠ a → H1[mj_B E + q]? = H[mj_B E + q]?) : mj_R E (mj_sl h a n f) nx1 H1 := by
  obtain ⟨kd, h1, h2, h3, h4⟩ := hR
  have hk : ∀ q, q < nx → (kd q ≠ 2) → q ≠ a := fun q hq hne e => by
    subst e
    rcases hold with ⟨⟨n', f'⟩, hg⟩ | hg
    · exact hne (h3 _ _ _ hg).1
    · omega
  refine ⟨fun q => if q = a then 2 else kd q, fun cj q gs hq => ?_, fun q n' f' hq => ?_, fun q n' f' hq => ?_, fun cj q n' f' hq => ?_⟩
  · obtain ⟨a1, a2, a3, a4⟩ := h1 cj q gs hq
    have e2 := hk q a2 (by omega)
    exact ⟨(if_neg e2).trans a1, by omega, a3, a4.kept (ho q a2 e2)⟩
  · obtain ⟨a1, a2, a3⟩ := h2 q n' f' hq
    have e2 := hk q a2 (by omega)
    exact ⟨(if_neg e2).trans a1, by omega, (ho q a2 e2).trans a3⟩
  · simp only [mj_sl] at hq
    by_cases e2 : q = a
    · rw [if_pos e2] at hq
      cases hq
      subst e2
      exact ⟨if_pos rfl, ha, hc⟩
    · rw [if_neg e2] at hq
      obtain ⟨a1, a2, a3⟩ := h3 q n' f' hq
      exact ⟨(if_neg e2).trans a1, by omega, (ho q a2 e2).trans a3⟩
  · obtain ⟨a1, a2, a3, a4⟩ := h4 cj q n' f' hq
    have e2 := hk q a2 (by omega)
    exact ⟨(if_neg e2).trans a1, by omega, a3, (ho q a2 e2).trans a4⟩
theorem mj_R.sr {E : mj_E} {h : mj_H} {nx nx1 : Nat} {H H1 : Heap} (hR : mj_R E h nx H) {ci a n : Nat} {f : Nat → Option Nat} (hn : nx ≤ nx1) (ha : a < nx1) (hold : (∃ gs, h.2.2.2 ci a = some gs) ∨ nx ≤ a) (hci : ci ∈ mj_ao)
    (hc : H1[mj_B E + a]? = some (vp_cell (mj_A E (2 + ci)) (n, .inr (.inr (.inr (.inr (fun j => (f j).map (mj_B E + ·)))))))) (ho : ∀ q, q < nx → q ≠ a → H1[mj_B E + q]? = H[mj_B E + q]?) : mj_R E (mj_sr h ci a n f) nx1 H1 := by
  obtain ⟨kd, h1, h2, h3, h4⟩ := hR
  have hk : ∀ q, q < nx → (kd q ≠ 4 * ci + 3) → q ≠ a := fun q hq hne e => by
    subst e
    rcases hold with ⟨⟨n', f'⟩, hg⟩ | hg
    · exact hne (h4 _ _ _ _ hg).1
    · omega
  refine ⟨fun q => if q = a then 4 * ci + 3 else kd q, fun cj q gs hq => ?_, fun q n' f' hq => ?_, fun q n' f' hq => ?_, fun cj q n' f' hq => ?_⟩
  · obtain ⟨a1, a2, a3, a4⟩ := h1 cj q gs hq
    have e2 := hk q a2 (by omega)
    exact ⟨(if_neg e2).trans a1, by omega, a3, a4.kept (ho q a2 e2)⟩
  · obtain ⟨a1, a2, a3⟩ := h2 q n' f' hq
    have e2 := hk q a2 (by omega)
    exact ⟨(if_neg e2).trans a1, by omega, (ho q a2 e2).trans a3⟩
  · obtain ⟨a1, a2, a3⟩ := h3 q n' f' hq
    have e2 := hk q a2 (by omega)
    exact ⟨(if_neg e2).trans a1, by omega, (ho q a2 e2).trans a3⟩
  · simp only [mj_sr] at hq
    by_cases e1 : cj = ci
    · rw [if_pos e1] at hq
      by_cases e2 : q = a
      · rw [if_pos e2] at hq
        cases hq
        subst e1; subst e2
        exact ⟨if_pos rfl, ha, hci, hc⟩
      · rw [if_neg e2] at hq
        obtain ⟨a1, a2, a3, a4⟩ := h4 cj q n' f' hq
        exact ⟨(if_neg e2).trans a1, by omega, a3, (ho q a2 e2).trans a4⟩
    · rw [if_neg e1] at hq
      obtain ⟨a1, a2, a3, a4⟩ := h4 cj q n' f' hq
      have e2 := hk q a2 (by omega)
      exact ⟨(if_neg e2).trans a1, by omega, a3, (ho q a2 e2).trans a4⟩
/-- two heaps beside each other, the script, the size -/
def mj_S (E : mj_E) (h g : mj_H) (nx : Nat) (s : State) (H : Heap) : Prop := mj_R E h nx H ∧ mj_R E g nx H ∧ (∀ a, mj_d h a → ¬ mj_d g a) ∧ H.size = mj_B E + nx ∧ va_X (mj_b E) (mj_len E) (mj_xs E) s H ∧ mj_b E < mj_B E
theorem mj_R_0 (E : mj_E) (nx : Nat) (H : Heap) : mj_R E mj_0 nx H := ⟨fun _ => 0, fun ci a fs h => by simp [mj_0] at h, fun a n f h => by simp [mj_0] at h, fun a n f h => by simp [mj_0] at h, fun ci a n f h => by simp [mj_0] at h⟩
theorem mj_d_0 {a : Nat} (h : mj_d mj_0 a) : False := by
  rcases h with ⟨_, _, h⟩ | ⟨_, h⟩ | ⟨_, h⟩ | ⟨_, _, h⟩ <;> simp [mj_0] at h
theorem mj_S.moved {E : mj_E} {h g : mj_H} {nx : Nat} {s U : State} {H : Heap} (hvm : s.vm.Alike U.vm) (hS : mj_S E h g nx s H) : mj_S E h g nx U H := ⟨hS.1, hS.2.1, hS.2.2.1, hS.2.2.2.1, hS.2.2.2.2.1.moved hvm, hS.2.2.2.2.2⟩
/-- the first heap is written at a, nothing else -/
theorem mj_S.w {E : mj_E} {h h' g : mj_H} {nx nx1 a : Nat} {s : State} {H H1 : Heap} (hS : mj_S E h g nx s H) (hn : nx ≤ nx1) (hd : ∀ q, mj_d h' q → mj_d h q ∨ q = a) (hold : mj_d h a ∨ nx ≤ a) (hz : H1.size = mj_B E + nx1) (ho : ∀ q, q < mj_B E + nx → q ≠ mj_B E + a → H1[q]? = H[q]?) (hR : mj_R E h' nx1 H1) : mj_S E h' g nx1 s H1 := by
  obtain ⟨r1, r2, r3, r4, r5, r6⟩ := hS
  have hga : ¬ mj_d g a := fun hg => by
    rcases hold with q | q
    · exact r3 a q hg
    · have := r2.lt hg
      omega
  have hgq : ∀ q, mj_d g q → q ≠ a := fun q hq e => hga (by rw [← e]; exact hq)
  refine ⟨hR, r2.kept hn (fun q hq => ho _ (by have := r2.lt hq; omega) (by have := hgq q hq; omega)), fun q hq hg => ?_, hz, r5.kept (ho _ (by omega) (by omega)), r6⟩
  rcases hd q hq with z | z
  · exact r3 q z hg
  · subst z; exact hga hg
/-- what a method keeps of the tables -/
def mj_k (E : mj_E) (U : State) : Prop := va_K (mj_D E) mj_cl (mj_ty E) U ∧ (∀ w ∈ mj_N, va_Nw w U) ∧ ∀ ci ∈ mj_ao, va_AO (mj_cn ci) U
theorem mj_N_warm {w : Cond} (hw : w ∈ mj_N) {s U : State} (hW : s.WarmedH U.vm) (h : va_Nw w s) : va_Nw w U := by
  have h2 := (List.mem_filter.mp hw).2
  unfold mj_isN at h2
  split at h2
  · exact va_Nw.warmF hW h
  · exact va_Nw.warmM hW h
  · cases h2
theorem mj_k.warm {E : mj_E} {s U : State} (hW : s.WarmedH U.vm) (h : mj_k E s) : mj_k E U := ⟨va_K.moved hW.alike h.1, fun w hw => mj_N_warm hw hW (h.2.1 w hw), fun ci hc => (h.2.2 ci hc).moved hW.alike⟩
theorem mj_N_same {w : Cond} (hw : w ∈ mj_N) {s U : State} (hv : s.vm = U.vm) (h : va_Nw w s) : va_Nw w U := by
  have h2 := (List.mem_filter.mp hw).2
  unfold mj_isN at h2
  split at h2
  · exact va_Nw.same rfl hv h
  · exact va_Nw.same rfl hv h
  · cases h2
theorem mj_k.calling {E : mj_E} {U : State} {a : Array Value} {g : JFrame} {mk : MethodId} (h : mj_k E U) : mj_k E (U.calling g mk a) := ⟨va_K.moved (u := U) (U := U.calling g mk a) (Vm.Alike.refl U.vm) h.1, fun w hw => mj_N_same (s := U) (U := U.calling g mk a) hw rfl (h.2.1 w hw), fun ci hc => (h.2.2 ci hc).moved (u := U) (U := U.calling g mk a) (Vm.Alike.refl U.vm)⟩
