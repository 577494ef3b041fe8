/-! THE JUDGEMENT, and a row an instruction kind -/
def mj_find : mj_T → Nat → Option (Instr × Nat × Value × Nat)
  | [], _ => none
  | e :: t, pc => cond (Nat.beq e.1 pc) (some e.2) (mj_find t pc)
theorem mj_find_mem {t : mj_T} {pc : Nat} {x : Instr × Nat × Value × Nat} (h : mj_find t pc = some x) : (pc, x) ∈ t := by
  induction t with
  | nil => cases h
  | cons e t ih =>
    unfold mj_find at h
    cases hb : Nat.beq e.1 pc with
    | true =>
      rw [hb] at h
      have e1 : e.1 = pc := Nat.eq_of_beq_eq_true hb
      have e2 : e.2 = x := Option.some.inj h
      rw [← e1, ← e2]
      exact List.mem_cons_self
    | false =>
      rw [hb] at h
      exact List.mem_cons_of_mem _ (ih h)
def mj_X (M : mj_M) (E : mj_E) (p : Program) (R : Room) (s : State) (m : MethodId) (args : Array Value) (meth : Method) (c : Code) : Prop :=
  p.tables.exec = Jvm.exec ∧ c.code = mj_cc M ∧ meth.sig.returnType = mj_ret M ∧ c.maxLocals = mj_nL M ∧ s.vm.findClass (mj_own M) = some m.cls ∧ (∀ w ∈ mj_G, w.before args s = true) ∧ mj_k E s ∧ meth.locks = false ∧ meth.name = (mj_y M).name ∧ mj_ok M ∧ mj_fr M ≤ R.frames ∧ mj_lo M ≤ R.locals
/-- what is known of the start, and what is asked of the end -/
abbrev mj_post : Type := (mj_E → Prop) × (Option Value → mj_H → mj_H → Nat → Prop)
def mj_fin (M : mj_M) (pc : Nat) : Option Value → Prop
  | none => (∃ x, mj_find (mj_tab M) pc = some (.return_, 1, x)) ∧ mj_ret M = none
  | some (.int v) => (∃ x, mj_find (mj_tab M) pc = some (.ireturn, 1, x)) ∧ ∃ ty, mj_ret M = some ty ∧ narrow ty (.int v) = .int v
  | some (.long _) => (∃ x, mj_find (mj_tab M) pc = some (.lreturn, 1, x)) ∧ mj_ret M = some .long
  | some (.ref _) => (∃ x, mj_find (mj_tab M) pc = some (.areturn, 1, x)) ∧ ∃ C, mj_ret M = some (.object C)
  | some .null => (∃ x, mj_find (mj_tab M) pc = some (.areturn, 1, x)) ∧ ∃ C, mj_ret M = some (.object C)
  | _ => False
/-- the world in a method's walk: the heaps are there, what may change, the room -/
def mj_J (E : mj_E) (R : Room) (s : State) (A : Nat → Prop) (h g : mj_H) (nx kc ks : Nat) (H : Heap) (locs : List Loc) (cells slots : Nat) : Prop :=
  mj_S E h g nx s H ∧ (∀ a, mj_d h a → A (mj_B E + a)) ∧ (∀ a, mj_d g a → A (mj_B E + a)) ∧ va_S A s.heap H locs ∧ cells + kc ≤ R.cells ∧ slots + ks ≤ R.slots
def mj_Z (M : mj_M) (E : mj_E) (p : Program) (l : Launch) (e : Env) (R : Room) (s : State) (m : MethodId) (args : Array Value) (below : List Frame) (meth : Method) (c : Code) (A : Nat → Prop) (Z : State → Prop) (Q : mj_post) : Prop :=
  mj_X M E p R s m args meth c ∧ (∀ q, s.heap.size ≤ q → A q) ∧
  (∀ r h' g' nx', Q.2 r h' g' nx' → ∀ H locs ls cells slots pc', mj_J E R s A h' g' nx' 0 0 H locs cells slots → mj_fin M pc' r → W p l e R s m args below meth c H locs cells slots Z (F0 m pc' ls (r.toList.map (mj_v E)))) ∧ Q.1 E
abbrev mj_lv (E : mj_E) (lv : List (Nat × Value)) : List (Nat × Value) := lv.map (fun q => (q.1, mj_v E q.2))
def mj_W (M : mj_M) (pc : Nat) (lv : List (Nat × Value)) (st : List Value) (h g : mj_H) (nx kc ks : Nat) (Q : mj_post) : Prop :=
  ∀ (E : mj_E) (p : Program) (l : Launch) (e : Env) (R : Room) (s : State) (m : MethodId) (args : Array Value) (below : List Frame) (meth : Method) (c : Code) (A : Nat → Prop) (Z : State → Prop), mj_Z M E p l e R s m args below meth c A Z Q →
    ∀ H locs ls cells slots, mj_J E R s A h g nx kc ks H locs cells slots → lv_has ls (mj_nL M) (mj_lv E lv) → W p l e R s m args below meth c H locs cells slots Z (F0 m pc ls (st.map (mj_v E)))
section MJR
variable {M : mj_M} {E : mj_E} {p : Program} {l : Launch} {e : Env} {R : Room} {s : State} {m : MethodId} {args : Array Value} {below : List Frame} {meth : Method} {c : Code} {A : Nat → Prop} {Z : State → Prop} {Q : mj_post}
theorem mj_Z.dec (hC : mj_Z M E p l e R s m args below meth c A Z Q) {pc : Nat} {i : Instr} {len n : Nat} {x : Value} (hd : mj_find (mj_tab M) pc = some (i, len, x, n)) : decode (mj_cc M) pc = .ok (i, len) ∧ n = pc + len ∧ mj_xb (mj_lc M) (pc, i, len, x, n) = true := by
  obtain ⟨⟨-, -, -, -, -, -, -, -, -, hok, -⟩, -⟩ := hC
  obtain ⟨h1, h2⟩ := hok.1 _ (mj_find_mem hd)
  refine ⟨h1, ?_, h2⟩
  unfold mj_xb at h2
  rw [Bool.and_eq_true] at h2
  exact of_decide_eq_true h2.1
theorem mj_Z.x (hC : mj_Z M E p l e R s m args below meth c A Z Q) : p.tables.exec = Jvm.exec := hC.1.1
theorem mj_Z.b (hC : mj_Z M E p l e R s m args below meth c A Z Q) : c.code = mj_cc M := hC.1.2.1
theorem mj_Z.own (hC : mj_Z M E p l e R s m args below meth c A Z Q) : s.vm.findClass (mj_own M) = some m.cls := hC.1.2.2.2.2.1
theorem mj_Z.ts (hC : mj_Z M E p l e R s m args below meth c A Z Q) : ∀ w ∈ mj_G, w.before args s = true := hC.1.2.2.2.2.2.1
theorem mj_Z.k (hC : mj_Z M E p l e R s m args below meth c A Z Q) : mj_k E s := hC.1.2.2.2.2.2.2.1
def mj_get : List (Nat × Value) → Nat → Option Value
  | [], _ => none
  | q :: t, i => cond (Nat.beq q.1 i) (some q.2) (mj_get t i)
theorem mj_get_mem {t : List (Nat × Value)} {i : Nat} {v : Value} (h : mj_get t i = some v) : (i, v) ∈ t := by
  induction t with
  | nil => cases h
  | cons e t ih =>
    unfold mj_get at h
    cases hb : Nat.beq e.1 i with
    | true =>
      rw [hb] at h
      have e1 : e.1 = i := Nat.eq_of_beq_eq_true hb
      have e2 : e.2 = v := Option.some.inj h
      rw [← e1, ← e2]
      exact List.mem_cons_self
    | false =>
      rw [hb] at h
      exact List.mem_cons_of_mem _ (ih h)
theorem mj_get_at {ls : Array Slot} {nL : Nat} {lv : List (Nat × Value)} (hl : lv_has ls nL (mj_lv E lv)) {i : Nat} {v : Value} (h : mj_get lv i = some v) : ls[i]? = some (.val (mj_v E v)) := hl.2.2 (i, mj_v E v) (List.mem_map.mpr ⟨(i, v), mj_get_mem h, rfl⟩)
/-- what stays beside a store at i (of two places: two) -/
def mj_flt (i : Nat) (two : Bool) : List (Nat × Value) → Option (List (Nat × Value))
  | [] => some []
  | q :: t => match mj_flt i two t with
    | some t' => cond (Nat.beq q.1 i || (two && Nat.beq q.1 (i + 1))) (some t') (cond (Nat.beq (q.1 + 1) i) (match q.2 with | .long _ => some t' | .double _ => some t' | _ => some (q :: t')) (some (q :: t')))
    | none => none
def mj_put (i : Nat) (v : Value) (two : Bool) : List (Nat × Value) → Option (List (Nat × Value))
  | [] => some [(i, v)]
  | q :: t => cond (Nat.blt (q.1 + 1) i) (match mj_put i v two t with | some t' => some (q :: t') | none => none) (match mj_flt i two (q :: t) with
    | some (q' :: t') => cond (Nat.blt q'.1 i) (some (q' :: (i, v) :: t')) (some ((i, v) :: q' :: t'))
    | some [] => some [(i, v)]
    | none => none)
def mj_ok1 (i : Nat) (two : Bool) (q : Nat × Value) : Prop := q.1 ≠ i ∧ (two = true → q.1 ≠ i + 1) ∧ ¬ (q.1 + 1 = i ∧ q.2.category = 2)
theorem mj_flt_mem {i : Nat} {two : Bool} {t : List (Nat × Value)} : ∀ {t' : List (Nat × Value)}, mj_flt i two t = some t' → ∀ q ∈ t', q ∈ t ∧ mj_ok1 i two q := by
  induction t with
  | nil =>
    intro t' h q hq
    cases h
    cases hq
  | cons e t ih =>
    intro t' h q hq
    unfold mj_flt at h
    split at h
    · next t1 h1 =>
      have ih := ih h1
      cases hb : (Nat.beq e.1 i || (two && Nat.beq e.1 (i + 1))) with
      | true =>
        rw [hb] at h
        have h := Option.some.inj h
        subst h
        exact ⟨List.mem_cons_of_mem _ (ih q hq).1, (ih q hq).2⟩
      | false =>
        rw [hb] at h
        simp only [Bool.or_eq_false_iff, Bool.and_eq_false_iff] at hb
        have n1 : e.1 ≠ i := fun z => by rw [z] at hb; simp at hb
        have n2 : two = true → e.1 ≠ i + 1 := fun z z2 => by rw [z2, z] at hb; simp at hb
        have go : ∀ {l : List (Nat × Value)}, ¬ (e.1 + 1 = i ∧ e.2.category = 2) → some (e :: t1) = some l → q ∈ l → q ∈ e :: t ∧ mj_ok1 i two q := fun n3 hl hq => by
          cases hl
          rcases List.mem_cons.mp hq with z | z
          · subst z
            exact ⟨List.mem_cons_self, n1, n2, n3⟩
          · exact ⟨List.mem_cons_of_mem _ (ih q z).1, (ih q z).2⟩
        have dr : some t1 = some t' → q ∈ e :: t ∧ mj_ok1 i two q := fun h => by
          have h := Option.some.inj h
          subst h
          exact ⟨List.mem_cons_of_mem _ (ih q hq).1, (ih q hq).2⟩
        cases hb2 : Nat.beq (e.1 + 1) i with
        | false =>
          rw [hb2] at h
          exact go (fun z => by rw [z.1] at hb2; simp at hb2) h hq
        | true =>
          rw [hb2] at h
          dsimp only [cond] at h
          split at h
          · exact dr h
          · exact dr h
          · next hx1 hx2 =>
            refine go (fun z => ?_) h hq
            have z2 := z.2
            cases hv : e.2 with
            | long v => exact hx1 v hv
            | double v => exact hx2 v hv
            | _ => rw [hv] at z2; simp [Value.category] at z2
    · cases h
theorem mj_put_mem {i : Nat} {v : Value} {two : Bool} {t : List (Nat × Value)} : ∀ {t' : List (Nat × Value)}, mj_put i v two t = some t' → ∀ q ∈ t', q = (i, v) ∨ (q ∈ t ∧ mj_ok1 i two q) := by
  induction t with
  | nil =>
    intro t' h q hq
    cases h
    exact Or.inl (List.mem_singleton.mp hq)
  | cons e t ih =>
    intro t' h q hq
    unfold mj_put at h
    cases hb : Nat.blt (e.1 + 1) i with
    | true =>
      rw [hb] at h
      dsimp only [cond] at h
      split at h
      · next t1 h1 =>
        cases h
        rcases List.mem_cons.mp hq with z | z
        · subst z
          have hb := Nat.blt_eq.mp hb
          exact Or.inr ⟨List.mem_cons_self, by omega, fun _ => by omega, fun z => by omega⟩
        · rcases ih h1 q z with z | z
          · exact Or.inl z
          · exact Or.inr ⟨List.mem_cons_of_mem _ z.1, z.2⟩
      · cases h
    | false =>
      rw [hb] at h
      dsimp only [cond] at h
      split at h
      · next q' t1 h1 =>
        have f := mj_flt_mem h1
        cases hb2 : Nat.blt q'.1 i with
        | true =>
          rw [hb2] at h
          cases h
          rcases List.mem_cons.mp hq with z | z
          · subst z; exact Or.inr (f _ List.mem_cons_self)
          · rcases List.mem_cons.mp z with z | z
            · exact Or.inl z
            · exact Or.inr (f _ (List.mem_cons_of_mem _ z))
        | false =>
          rw [hb2] at h
          cases h
          rcases List.mem_cons.mp hq with z | z
          · exact Or.inl z
          · exact Or.inr (f _ z)
      · next h1 =>
        cases h
        exact Or.inl (List.mem_singleton.mp hq)
      · cases h
theorem mj_put1 {ls : Array Slot} {nL : Nat} {lv lv' : List (Nat × Value)} {i : Nat} {v : Value} (hp : mj_put i v false lv = some lv') (hl : lv_has ls nL ((i, mj_v E v) :: (mj_lv E lv).filter (fun q => !(q.1 == i) && !(q.1 + 1 == i && q.2.category == 2)))) : lv_has ls nL (mj_lv E lv') := by
  refine ⟨hl.1, hl.2.1, fun q hq => ?_⟩
  obtain ⟨q0, h0, rfl⟩ := List.mem_map.mp hq
  refine hl.2.2 _ ?_
  rcases mj_put_mem hp q0 h0 with z | ⟨z, z1, -, z3⟩
  · subst z; exact List.mem_cons_self
  · refine List.mem_cons_of_mem _ (List.mem_filter.mpr ⟨List.mem_map.mpr ⟨q0, z, rfl⟩, ?_⟩)
    simp only [mj_v_cat, Bool.and_eq_true, Bool.not_eq_true', beq_eq_false_iff_ne, ne_eq, Bool.and_eq_false_iff]
    refine ⟨z1, ?_⟩
    by_cases a : q0.1 + 1 = i
    · exact Or.inr (fun b => z3 ⟨a, b⟩)
    · exact Or.inl a
theorem mj_put2 {ls : Array Slot} {nL : Nat} {lv lv' : List (Nat × Value)} {i : Nat} {v : Value} (hp : mj_put i v true lv = some lv') (hl : lv_has ls nL ((i, mj_v E v) :: (mj_lv E lv).filter (fun q => !(q.1 == i) && (!(q.1 == i + 1) && !(q.1 + 1 == i && q.2.category == 2))))) : lv_has ls nL (mj_lv E lv') := by
  refine ⟨hl.1, hl.2.1, fun q hq => ?_⟩
  obtain ⟨q0, h0, rfl⟩ := List.mem_map.mp hq
  refine hl.2.2 _ ?_
  rcases mj_put_mem hp q0 h0 with z | ⟨z, z1, z2, z3⟩
  · subst z; exact List.mem_cons_self
  · refine List.mem_cons_of_mem _ (List.mem_filter.mpr ⟨List.mem_map.mpr ⟨q0, z, rfl⟩, ?_⟩)
    simp only [mj_v_cat, Bool.and_eq_true, Bool.not_eq_true', beq_eq_false_iff_ne, ne_eq, Bool.and_eq_false_iff]
    refine ⟨z1, z2 rfl, ?_⟩
    by_cases a : q0.1 + 1 = i
    · exact Or.inr (fun b => z3 ⟨a, b⟩)
    · exact Or.inl a
variable {pc len n : Nat} {x : Value} {lv lv' : List (Nat × Value)} {st r : List Value} {h g : mj_H} {nx kc ks : Nat}
theorem mj_r_iconst {v : Int} (hd : mj_find (mj_tab M) pc = some (.iconst v, 1, x, n)) (k : mj_W M n lv (x :: st) h g nx kc ks Q) : mj_W M pc lv st h g nx kc ks Q := by
  intro E p l e R s m args below meth c A Z hC H locs ls cells slots hJ hl
  obtain ⟨hdg, hn, hxb⟩ := hC.dec hd
  subst hn
  have e1 : x = .int (Int32.ofInt v) := by simpa [mj_xb] using hxb
  subst e1
  exact lv_iconst hC.x hC.b hdg rfl (k E p l e R s m args below meth c A Z hC H locs ls cells slots hJ hl)
theorem mj_r_bipush {v : Int} (hd : mj_find (mj_tab M) pc = some (.bipush v, 2, x, n)) (k : mj_W M n lv (x :: st) h g nx kc ks Q) : mj_W M pc lv st h g nx kc ks Q := by
  intro E p l e R s m args below meth c A Z hC H locs ls cells slots hJ hl
  obtain ⟨hdg, hn, hxb⟩ := hC.dec hd
  subst hn
  have e1 : x = .int (Int8.ofInt v).toInt32 := by simpa [mj_xb] using hxb
  subst e1
  exact lv_bipush hC.x hC.b hdg rfl (k E p l e R s m args below meth c A Z hC H locs ls cells slots hJ hl)
theorem mj_r_sipush {v : Int} (hd : mj_find (mj_tab M) pc = some (.sipush v, 3, x, n)) (k : mj_W M n lv (x :: st) h g nx kc ks Q) : mj_W M pc lv st h g nx kc ks Q := by
  intro E p l e R s m args below meth c A Z hC H locs ls cells slots hJ hl
  obtain ⟨hdg, hn, hxb⟩ := hC.dec hd
  subst hn
  have e1 : x = .int (Int16.ofInt v).toInt32 := by simpa [mj_xb] using hxb
  subst e1
  exact lv_sipush hC.x hC.b hdg rfl (k E p l e R s m args below meth c A Z hC H locs ls cells slots hJ hl)
theorem mj_r_lconst {v : Fin 2} (hd : mj_find (mj_tab M) pc = some (.lconst v, 1, x, n)) (k : mj_W M n lv (x :: st) h g nx kc ks Q) : mj_W M pc lv st h g nx kc ks Q := by
  intro E p l e R s m args below meth c A Z hC H locs ls cells slots hJ hl
  obtain ⟨hdg, hn, hxb⟩ := hC.dec hd
  subst hn
  have e1 : x = .long (Int64.ofNat v) := by simpa [mj_xb] using hxb
  subst e1
  exact lv_lconst hC.x hC.b hdg rfl (k E p l e R s m args below meth c A Z hC H locs ls cells slots hJ hl)
theorem mj_r_ldc2 {v : Nat} (hd : mj_find (mj_tab M) pc = some (.ldc2_w v, 3, x, n)) (k : mj_W M n lv (x :: st) h g nx kc ks Q) : mj_W M pc lv st h g nx kc ks Q := by
  intro E p l e R s m args below meth c A Z hC H locs ls cells slots hJ hl
  obtain ⟨hdg, hn, hxb⟩ := hC.dec hd
  subst hn
  have e1 : ∃ q ∈ mj_lc M, q.1 = v ∧ x = .long q.2 := by simpa [mj_xb] using hxb
  obtain ⟨q, hq, rfl, rfl⟩ := e1
  obtain ⟨w, hw, hw2⟩ := hC.1.2.2.2.2.2.2.2.2.2.1.2.2.1 q hq
  cases Option.some.inj hw
  exact lv_ldc2 hC.x hC.b hC.own (hC.ts _ (List.mem_filter.mpr ⟨List.mem_append_right _ hw2, rfl⟩)) hdg (k E p l e R s m args below meth c A Z hC H locs ls cells slots hJ hl)
theorem mj_r_null (hd : mj_find (mj_tab M) pc = some (.aconst_null, 1, x, n)) (k : mj_W M n lv (.null :: st) h g nx kc ks Q) : mj_W M pc lv st h g nx kc ks Q := by
  intro E p l e R s m args below meth c A Z hC H locs ls cells slots hJ hl
  obtain ⟨hdg, hn, hxb⟩ := hC.dec hd
  subst hn
  exact lv_null hC.x hC.b hdg (k E p l e R s m args below meth c A Z hC H locs ls cells slots hJ hl)
theorem mj_r_iload_n {v : Fin 4} {y : Int32} (hd : mj_find (mj_tab M) pc = some (.iload_n v, 1, x, n)) (hg : mj_get lv v = some (.int y)) (k : mj_W M n lv (.int y :: st) h g nx kc ks Q) : mj_W M pc lv st h g nx kc ks Q := by
  intro E p l e R s m args below meth c A Z hC H locs ls cells slots hJ hl
  obtain ⟨hdg, hn, hxb⟩ := hC.dec hd
  subst hn
  exact lv_iload_n hC.x hC.b hdg rfl (mj_get_at hl hg) (k E p l e R s m args below meth c A Z hC H locs ls cells slots hJ hl)
theorem mj_r_iload {v : Nat} {y : Int32} (hd : mj_find (mj_tab M) pc = some (.iload v, 2, x, n)) (hg : mj_get lv v = some (.int y)) (k : mj_W M n lv (.int y :: st) h g nx kc ks Q) : mj_W M pc lv st h g nx kc ks Q := by
  intro E p l e R s m args below meth c A Z hC H locs ls cells slots hJ hl
  obtain ⟨hdg, hn, hxb⟩ := hC.dec hd
  subst hn
  exact lv_iload hC.x hC.b hdg (mj_get_at hl hg) (k E p l e R s m args below meth c A Z hC H locs ls cells slots hJ hl)
theorem mj_r_lload_n {v : Fin 4} {y : Int64} (hd : mj_find (mj_tab M) pc = some (.lload_n v, 1, x, n)) (hg : mj_get lv v = some (.long y)) (k : mj_W M n lv (.long y :: st) h g nx kc ks Q) : mj_W M pc lv st h g nx kc ks Q := by
  intro E p l e R s m args below meth c A Z hC H locs ls cells slots hJ hl
  obtain ⟨hdg, hn, hxb⟩ := hC.dec hd
  subst hn
  exact lv_lload_n hC.x hC.b hdg rfl (mj_get_at hl hg) (k E p l e R s m args below meth c A Z hC H locs ls cells slots hJ hl)
theorem mj_r_lload {v : Nat} {y : Int64} (hd : mj_find (mj_tab M) pc = some (.lload v, 2, x, n)) (hg : mj_get lv v = some (.long y)) (k : mj_W M n lv (.long y :: st) h g nx kc ks Q) : mj_W M pc lv st h g nx kc ks Q := by
  intro E p l e R s m args below meth c A Z hC H locs ls cells slots hJ hl
  obtain ⟨hdg, hn, hxb⟩ := hC.dec hd
  subst hn
  exact lv_lload hC.x hC.b hdg (mj_get_at hl hg) (k E p l e R s m args below meth c A Z hC H locs ls cells slots hJ hl)
theorem mj_r_aload_n_ref {v : Fin 4} {y : Nat} (hd : mj_find (mj_tab M) pc = some (.aload_n v, 1, x, n)) (hg : mj_get lv v = some (.ref y)) (k : mj_W M n lv ((.ref y) :: st) h g nx kc ks Q) : mj_W M pc lv st h g nx kc ks Q := by
  intro E p l e R s m args below meth c A Z hC H locs ls cells slots hJ hl
  obtain ⟨hdg, hn, hxb⟩ := hC.dec hd
  subst hn
  exact lv_aload_n hC.x hC.b hdg rfl (mj_get_at hl hg) (k E p l e R s m args below meth c A Z hC H locs ls cells slots hJ hl)
theorem mj_r_aload_ref {v : Nat} {y : Nat} (hd : mj_find (mj_tab M) pc = some (.aload v, 2, x, n)) (hg : mj_get lv v = some (.ref y)) (k : mj_W M n lv ((.ref y) :: st) h g nx kc ks Q) : mj_W M pc lv st h g nx kc ks Q := by
  intro E p l e R s m args below meth c A Z hC H locs ls cells slots hJ hl
  obtain ⟨hdg, hn, hxb⟩ := hC.dec hd
  subst hn
  exact lv_aload hC.x hC.b hdg (mj_get_at hl hg) (k E p l e R s m args below meth c A Z hC H locs ls cells slots hJ hl)
theorem mj_r_aload_n_rad {v : Fin 4} {y : Nat} (hd : mj_find (mj_tab M) pc = some (.aload_n v, 1, x, n)) (hg : mj_get lv v = some (.retAddr y)) (k : mj_W M n lv ((.retAddr y) :: st) h g nx kc ks Q) : mj_W M pc lv st h g nx kc ks Q := by
  intro E p l e R s m args below meth c A Z hC H locs ls cells slots hJ hl
  obtain ⟨hdg, hn, hxb⟩ := hC.dec hd
  subst hn
  exact lv_aload_n hC.x hC.b hdg rfl (mj_get_at hl hg) (k E p l e R s m args below meth c A Z hC H locs ls cells slots hJ hl)
theorem mj_r_aload_rad {v : Nat} {y : Nat} (hd : mj_find (mj_tab M) pc = some (.aload v, 2, x, n)) (hg : mj_get lv v = some (.retAddr y)) (k : mj_W M n lv ((.retAddr y) :: st) h g nx kc ks Q) : mj_W M pc lv st h g nx kc ks Q := by
  intro E p l e R s m args below meth c A Z hC H locs ls cells slots hJ hl
  obtain ⟨hdg, hn, hxb⟩ := hC.dec hd
  subst hn
  exact lv_aload hC.x hC.b hdg (mj_get_at hl hg) (k E p l e R s m args below meth c A Z hC H locs ls cells slots hJ hl)
theorem mj_r_aload_n_nul {v : Fin 4} (hd : mj_find (mj_tab M) pc = some (.aload_n v, 1, x, n)) (hg : mj_get lv v = some .null) (k : mj_W M n lv (.null :: st) h g nx kc ks Q) : mj_W M pc lv st h g nx kc ks Q := by
  intro E p l e R s m args below meth c A Z hC H locs ls cells slots hJ hl
  obtain ⟨hdg, hn, hxb⟩ := hC.dec hd
  subst hn
  exact lv_aload_nN hC.x hC.b hdg rfl (mj_get_at hl hg) (k E p l e R s m args below meth c A Z hC H locs ls cells slots hJ hl)
theorem mj_r_aload_nul {v : Nat} (hd : mj_find (mj_tab M) pc = some (.aload v, 2, x, n)) (hg : mj_get lv v = some .null) (k : mj_W M n lv (.null :: st) h g nx kc ks Q) : mj_W M pc lv st h g nx kc ks Q := by
  intro E p l e R s m args below meth c A Z hC H locs ls cells slots hJ hl
  obtain ⟨hdg, hn, hxb⟩ := hC.dec hd
  subst hn
  exact lv_aloadN hC.x hC.b hdg (mj_get_at hl hg) (k E p l e R s m args below meth c A Z hC H locs ls cells slots hJ hl)
theorem mj_r_istore_n {v : Fin 4} {y : Int32} (hd : mj_find (mj_tab M) pc = some (.istore_n v, 1, x, n)) (hb : (v : Nat) < mj_nL M) (hp : mj_put v (.int y) false lv = some lv') (k : mj_W M n lv' st h g nx kc ks Q) : mj_W M pc lv ((.int y) :: st) h g nx kc ks Q := by
  intro E p l e R s m args below meth c A Z hC H locs ls cells slots hJ hl
  obtain ⟨hdg, hn, hxb⟩ := hC.dec hd
  subst hn
  exact lv_istore_n hC.x hC.b hdg rfl hl hb rfl (fun ls' hl' => k E p l e R s m args below meth c A Z hC H locs ls' cells slots hJ (mj_put1 hp hl'))
theorem mj_r_istore {v : Nat} {y : Int32} (hd : mj_find (mj_tab M) pc = some (.istore v, 2, x, n)) (hb : v < mj_nL M) (hp : mj_put v (.int y) false lv = some lv') (k : mj_W M n lv' st h g nx kc ks Q) : mj_W M pc lv ((.int y) :: st) h g nx kc ks Q := by
  intro E p l e R s m args below meth c A Z hC H locs ls cells slots hJ hl
  obtain ⟨hdg, hn, hxb⟩ := hC.dec hd
  subst hn
  exact lv_istore hC.x hC.b hdg hl hb rfl (fun ls' hl' => k E p l e R s m args below meth c A Z hC H locs ls' cells slots hJ (mj_put1 hp hl'))
theorem mj_r_lstore_n {v : Fin 4} {y : Int64} (hd : mj_find (mj_tab M) pc = some (.lstore_n v, 1, x, n)) (hb : (v : Nat) + 1 < mj_nL M) (hp : mj_put v (.long y) true lv = some lv') (k : mj_W M n lv' st h g nx kc ks Q) : mj_W M pc lv ((.long y) :: st) h g nx kc ks Q := by
  intro E p l e R s m args below meth c A Z hC H locs ls cells slots hJ hl
  obtain ⟨hdg, hn, hxb⟩ := hC.dec hd
  subst hn
  exact lv_lstore_n hC.x hC.b hdg rfl hl hb rfl (fun ls' hl' => k E p l e R s m args below meth c A Z hC H locs ls' cells slots hJ (mj_put2 hp hl'))
theorem mj_r_lstore {v : Nat} {y : Int64} (hd : mj_find (mj_tab M) pc = some (.lstore v, 2, x, n)) (hb : v + 1 < mj_nL M) (hp : mj_put v (.long y) true lv = some lv') (k : mj_W M n lv' st h g nx kc ks Q) : mj_W M pc lv ((.long y) :: st) h g nx kc ks Q := by
  intro E p l e R s m args below meth c A Z hC H locs ls cells slots hJ hl
  obtain ⟨hdg, hn, hxb⟩ := hC.dec hd
  subst hn
  exact lv_lstore hC.x hC.b hdg hl hb rfl (fun ls' hl' => k E p l e R s m args below meth c A Z hC H locs ls' cells slots hJ (mj_put2 hp hl'))
theorem mj_r_astore_n {v : Fin 4} {y : Nat} (hd : mj_find (mj_tab M) pc = some (.astore_n v, 1, x, n)) (hb : (v : Nat) < mj_nL M) (hp : mj_put v (.ref y) false lv = some lv') (k : mj_W M n lv' st h g nx kc ks Q) : mj_W M pc lv ((.ref y) :: st) h g nx kc ks Q := by
  intro E p l e R s m args below meth c A Z hC H locs ls cells slots hJ hl
  obtain ⟨hdg, hn, hxb⟩ := hC.dec hd
  subst hn
  exact lv_astore_n hC.x hC.b hdg rfl hl hb rfl (fun ls' hl' => k E p l e R s m args below meth c A Z hC H locs ls' cells slots hJ (mj_put1 hp hl'))
theorem mj_r_astore {v : Nat} {y : Nat} (hd : mj_find (mj_tab M) pc = some (.astore v, 2, x, n)) (hb : v < mj_nL M) (hp : mj_put v (.ref y) false lv = some lv') (k : mj_W M n lv' st h g nx kc ks Q) : mj_W M pc lv ((.ref y) :: st) h g nx kc ks Q := by
  intro E p l e R s m args below meth c A Z hC H locs ls cells slots hJ hl
  obtain ⟨hdg, hn, hxb⟩ := hC.dec hd
  subst hn
  exact lv_astore hC.x hC.b hdg hl hb rfl (fun ls' hl' => k E p l e R s m args below meth c A Z hC H locs ls' cells slots hJ (mj_put1 hp hl'))
theorem mj_r_aNstore_n {v : Fin 4} (hd : mj_find (mj_tab M) pc = some (.astore_n v, 1, x, n)) (hb : (v : Nat) < mj_nL M) (hp : mj_put v .null false lv = some lv') (k : mj_W M n lv' st h g nx kc ks Q) : mj_W M pc lv (.null :: st) h g nx kc ks Q := by
  intro E p l e R s m args below meth c A Z hC H locs ls cells slots hJ hl
  obtain ⟨hdg, hn, hxb⟩ := hC.dec hd
  subst hn
  exact lv_astore_nN hC.x hC.b hdg rfl hl hb rfl (fun ls' hl' => k E p l e R s m args below meth c A Z hC H locs ls' cells slots hJ (mj_put1 hp hl'))
theorem mj_r_aNstore {v : Nat} (hd : mj_find (mj_tab M) pc = some (.astore v, 2, x, n)) (hb : v < mj_nL M) (hp : mj_put v .null false lv = some lv') (k : mj_W M n lv' st h g nx kc ks Q) : mj_W M pc lv (.null :: st) h g nx kc ks Q := by
  intro E p l e R s m args below meth c A Z hC H locs ls cells slots hJ hl
  obtain ⟨hdg, hn, hxb⟩ := hC.dec hd
  subst hn
  exact lv_astoreN hC.x hC.b hdg hl hb rfl (fun ls' hl' => k E p l e R s m args below meth c A Z hC H locs ls' cells slots hJ (mj_put1 hp hl'))
theorem mj_r_iinc {v : Nat} {q : Int} {y z : Int32} (hd : mj_find (mj_tab M) pc = some (.iinc v q, 3, x, n)) (hx : x = .int z) (hg : mj_get lv v = some (.int y)) (hb : v < mj_nL M) (hp : mj_put v (.int (y + z)) false lv = some lv') (k : mj_W M n lv' st h g nx kc ks Q) : mj_W M pc lv st h g nx kc ks Q := by
  intro E p l e R s m args below meth c A Z hC H locs ls cells slots hJ hl
  obtain ⟨hdg, hn, hxb⟩ := hC.dec hd
  subst hn
  have e1 : x = .int (Int32.ofInt q) := by simpa [mj_xb] using hxb
  have e2 : z = Int32.ofInt q := by simpa using hx.symm.trans e1
  subst e2
  obtain ⟨k0, hk0⟩ := List.getElem?_of_mem (List.mem_map.mpr ⟨(v, .int y), mj_get_mem hg, rfl⟩ : ((v, mj_v E (.int y)) : Nat × Value) ∈ mj_lv E lv)
  exact lv_iinc hC.x hC.b hdg hl hk0 rfl hb rfl (fun ls' hl' => k E p l e R s m args below meth c A Z hC H locs ls' cells slots hJ (mj_put1 hp hl'))
theorem mj_r_iadd {a b : Int32} (hd : mj_find (mj_tab M) pc = some (.iadd, 1, x, n)) (k : mj_W M n lv (.int (a + b) :: r) h g nx kc ks Q) : mj_W M pc lv (.int b :: .int a :: r) h g nx kc ks Q := by
  intro E p l e R s m args below meth c A Z hC H locs ls cells slots hJ hl
  obtain ⟨hdg, hn, hxb⟩ := hC.dec hd
  subst hn
  exact lv_iadd hC.x hC.b hdg (k E p l e R s m args below meth c A Z hC H locs ls cells slots hJ hl)
theorem mj_r_isub {a b : Int32} (hd : mj_find (mj_tab M) pc = some (.isub, 1, x, n)) (k : mj_W M n lv (.int (a - b) :: r) h g nx kc ks Q) : mj_W M pc lv (.int b :: .int a :: r) h g nx kc ks Q := by
  intro E p l e R s m args below meth c A Z hC H locs ls cells slots hJ hl
  obtain ⟨hdg, hn, hxb⟩ := hC.dec hd
  subst hn
  exact lv_isub hC.x hC.b hdg (k E p l e R s m args below meth c A Z hC H locs ls cells slots hJ hl)
theorem mj_r_imul {a b : Int32} (hd : mj_find (mj_tab M) pc = some (.imul, 1, x, n)) (k : mj_W M n lv (.int (a * b) :: r) h g nx kc ks Q) : mj_W M pc lv (.int b :: .int a :: r) h g nx kc ks Q := by
  intro E p l e R s m args below meth c A Z hC H locs ls cells slots hJ hl
  obtain ⟨hdg, hn, hxb⟩ := hC.dec hd
  subst hn
  exact lv_imul hC.x hC.b hdg (k E p l e R s m args below meth c A Z hC H locs ls cells slots hJ hl)
theorem mj_r_iand {a b : Int32} (hd : mj_find (mj_tab M) pc = some (.iand, 1, x, n)) (k : mj_W M n lv (.int (a &&& b) :: r) h g nx kc ks Q) : mj_W M pc lv (.int b :: .int a :: r) h g nx kc ks Q := by
  intro E p l e R s m args below meth c A Z hC H locs ls cells slots hJ hl
  obtain ⟨hdg, hn, hxb⟩ := hC.dec hd
  subst hn
  exact lv_iand hC.x hC.b hdg (k E p l e R s m args below meth c A Z hC H locs ls cells slots hJ hl)
theorem mj_r_ior {a b : Int32} (hd : mj_find (mj_tab M) pc = some (.ior, 1, x, n)) (k : mj_W M n lv (.int (a ||| b) :: r) h g nx kc ks Q) : mj_W M pc lv (.int b :: .int a :: r) h g nx kc ks Q := by
  intro E p l e R s m args below meth c A Z hC H locs ls cells slots hJ hl
  obtain ⟨hdg, hn, hxb⟩ := hC.dec hd
  subst hn
  exact lv_ior hC.x hC.b hdg (k E p l e R s m args below meth c A Z hC H locs ls cells slots hJ hl)
theorem mj_r_ixor {a b : Int32} (hd : mj_find (mj_tab M) pc = some (.ixor, 1, x, n)) (k : mj_W M n lv (.int (a ^^^ b) :: r) h g nx kc ks Q) : mj_W M pc lv (.int b :: .int a :: r) h g nx kc ks Q := by
  intro E p l e R s m args below meth c A Z hC H locs ls cells slots hJ hl
  obtain ⟨hdg, hn, hxb⟩ := hC.dec hd
  subst hn
  exact lv_ixor hC.x hC.b hdg (k E p l e R s m args below meth c A Z hC H locs ls cells slots hJ hl)
theorem mj_r_ladd {a b : Int64} (hd : mj_find (mj_tab M) pc = some (.ladd, 1, x, n)) (k : mj_W M n lv (.long (a + b) :: r) h g nx kc ks Q) : mj_W M pc lv (.long b :: .long a :: r) h g nx kc ks Q := by
  intro E p l e R s m args below meth c A Z hC H locs ls cells slots hJ hl
  obtain ⟨hdg, hn, hxb⟩ := hC.dec hd
  subst hn
  exact lv_ladd hC.x hC.b hdg (k E p l e R s m args below meth c A Z hC H locs ls cells slots hJ hl)
theorem mj_r_lsub {a b : Int64} (hd : mj_find (mj_tab M) pc = some (.lsub, 1, x, n)) (k : mj_W M n lv (.long (a - b) :: r) h g nx kc ks Q) : mj_W M pc lv (.long b :: .long a :: r) h g nx kc ks Q := by
  intro E p l e R s m args below meth c A Z hC H locs ls cells slots hJ hl
  obtain ⟨hdg, hn, hxb⟩ := hC.dec hd
  subst hn
  exact lv_lsub hC.x hC.b hdg (k E p l e R s m args below meth c A Z hC H locs ls cells slots hJ hl)
theorem mj_r_lmul {a b : Int64} (hd : mj_find (mj_tab M) pc = some (.lmul, 1, x, n)) (k : mj_W M n lv (.long (a * b) :: r) h g nx kc ks Q) : mj_W M pc lv (.long b :: .long a :: r) h g nx kc ks Q := by
  intro E p l e R s m args below meth c A Z hC H locs ls cells slots hJ hl
  obtain ⟨hdg, hn, hxb⟩ := hC.dec hd
  subst hn
  exact lv_lmul hC.x hC.b hdg (k E p l e R s m args below meth c A Z hC H locs ls cells slots hJ hl)
theorem mj_r_land {a b : Int64} (hd : mj_find (mj_tab M) pc = some (.land, 1, x, n)) (k : mj_W M n lv (.long (a &&& b) :: r) h g nx kc ks Q) : mj_W M pc lv (.long b :: .long a :: r) h g nx kc ks Q := by
  intro E p l e R s m args below meth c A Z hC H locs ls cells slots hJ hl
  obtain ⟨hdg, hn, hxb⟩ := hC.dec hd
  subst hn
  exact lv_land hC.x hC.b hdg (k E p l e R s m args below meth c A Z hC H locs ls cells slots hJ hl)
theorem mj_r_lor {a b : Int64} (hd : mj_find (mj_tab M) pc = some (.lor, 1, x, n)) (k : mj_W M n lv (.long (a ||| b) :: r) h g nx kc ks Q) : mj_W M pc lv (.long b :: .long a :: r) h g nx kc ks Q := by
  intro E p l e R s m args below meth c A Z hC H locs ls cells slots hJ hl
  obtain ⟨hdg, hn, hxb⟩ := hC.dec hd
  subst hn
  exact lv_lor hC.x hC.b hdg (k E p l e R s m args below meth c A Z hC H locs ls cells slots hJ hl)
theorem mj_r_lxor {a b : Int64} (hd : mj_find (mj_tab M) pc = some (.lxor, 1, x, n)) (k : mj_W M n lv (.long (a ^^^ b) :: r) h g nx kc ks Q) : mj_W M pc lv (.long b :: .long a :: r) h g nx kc ks Q := by
  intro E p l e R s m args below meth c A Z hC H locs ls cells slots hJ hl
  obtain ⟨hdg, hn, hxb⟩ := hC.dec hd
  subst hn
  exact lv_lxor hC.x hC.b hdg (k E p l e R s m args below meth c A Z hC H locs ls cells slots hJ hl)
theorem mj_r_ishl {a b : Int32} (hd : mj_find (mj_tab M) pc = some (.ishl, 1, x, n)) (k : mj_W M n lv (.int (a <<< (b &&& 31)) :: r) h g nx kc ks Q) : mj_W M pc lv (.int b :: .int a :: r) h g nx kc ks Q := by
  intro E p l e R s m args below meth c A Z hC H locs ls cells slots hJ hl
  obtain ⟨hdg, hn, hxb⟩ := hC.dec hd
  subst hn
  exact lv_ishl hC.x hC.b hdg (k E p l e R s m args below meth c A Z hC H locs ls cells slots hJ hl)
theorem mj_r_ishr {a b : Int32} (hd : mj_find (mj_tab M) pc = some (.ishr, 1, x, n)) (k : mj_W M n lv (.int (a >>> (b &&& 31)) :: r) h g nx kc ks Q) : mj_W M pc lv (.int b :: .int a :: r) h g nx kc ks Q := by
  intro E p l e R s m args below meth c A Z hC H locs ls cells slots hJ hl
  obtain ⟨hdg, hn, hxb⟩ := hC.dec hd
  subst hn
  exact lv_ishr hC.x hC.b hdg (k E p l e R s m args below meth c A Z hC H locs ls cells slots hJ hl)
theorem mj_r_idiv {a b : Int32} (hd : mj_find (mj_tab M) pc = some (.idiv, 1, x, n)) (hb : ¬ b = 0) (k : mj_W M n lv (.int (a / b) :: r) h g nx kc ks Q) : mj_W M pc lv (.int b :: .int a :: r) h g nx kc ks Q := by
  intro E p l e R s m args below meth c A Z hC H locs ls cells slots hJ hl
  obtain ⟨hdg, hn, hxb⟩ := hC.dec hd
  subst hn
  exact lv_idiv hC.x hC.b hdg hb (k E p l e R s m args below meth c A Z hC H locs ls cells slots hJ hl)
theorem mj_r_irem {a b : Int32} (hd : mj_find (mj_tab M) pc = some (.irem, 1, x, n)) (hb : ¬ b = 0) (k : mj_W M n lv (.int (a - a / b * b) :: r) h g nx kc ks Q) : mj_W M pc lv (.int b :: .int a :: r) h g nx kc ks Q := by
  intro E p l e R s m args below meth c A Z hC H locs ls cells slots hJ hl
  obtain ⟨hdg, hn, hxb⟩ := hC.dec hd
  subst hn
  exact lv_irem hC.x hC.b hdg hb (k E p l e R s m args below meth c A Z hC H locs ls cells slots hJ hl)
theorem mj_r_ineg {a : Int32} (hd : mj_find (mj_tab M) pc = some (.ineg, 1, x, n)) (k : mj_W M n lv (.int (-a) :: r) h g nx kc ks Q) : mj_W M pc lv (.int a :: r) h g nx kc ks Q := by
  intro E p l e R s m args below meth c A Z hC H locs ls cells slots hJ hl
  obtain ⟨hdg, hn, hxb⟩ := hC.dec hd
  subst hn
  exact lv_ineg hC.x hC.b hdg (k E p l e R s m args below meth c A Z hC H locs ls cells slots hJ hl)
theorem mj_r_iushr {a b : Int32} (hd : mj_find (mj_tab M) pc = some (.iushr, 1, x, n)) (k : mj_W M n lv (.int (a.toUInt32 >>> (b.toUInt32 &&& Int32.toUInt32 31)).toInt32 :: r) h g nx kc ks Q) : mj_W M pc lv (.int b :: .int a :: r) h g nx kc ks Q := by
  intro E p l e R s m args below meth c A Z hC H locs ls cells slots hJ hl
  obtain ⟨hdg, hn, hxb⟩ := hC.dec hd
  subst hn
  exact lv_iushr hC.x hC.b hdg rfl (k E p l e R s m args below meth c A Z hC H locs ls cells slots hJ hl)
theorem mj_r_lushr {a : Int64} {b : Int32} (hd : mj_find (mj_tab M) pc = some (.lushr, 1, x, n)) (k : mj_W M n lv (.long (a.toUInt64 >>> (b.toInt64.toUInt64 &&& Int64.toUInt64 63)).toInt64 :: r) h g nx kc ks Q) : mj_W M pc lv (.int b :: .long a :: r) h g nx kc ks Q := by
  intro E p l e R s m args below meth c A Z hC H locs ls cells slots hJ hl
  obtain ⟨hdg, hn, hxb⟩ := hC.dec hd
  subst hn
  exact lv_lushr hC.x hC.b hdg rfl (k E p l e R s m args below meth c A Z hC H locs ls cells slots hJ hl)
theorem mj_r_lshl {a : Int64} {b : Int32} (hd : mj_find (mj_tab M) pc = some (.lshl, 1, x, n)) (k : mj_W M n lv (.long (a <<< (b.toInt64 &&& 63)) :: r) h g nx kc ks Q) : mj_W M pc lv (.int b :: .long a :: r) h g nx kc ks Q := by
  intro E p l e R s m args below meth c A Z hC H locs ls cells slots hJ hl
  obtain ⟨hdg, hn, hxb⟩ := hC.dec hd
  subst hn
  exact lv_lshl hC.x hC.b hdg rfl (k E p l e R s m args below meth c A Z hC H locs ls cells slots hJ hl)
theorem mj_r_i2l {a : Int32} (hd : mj_find (mj_tab M) pc = some (.i2l, 1, x, n)) (k : mj_W M n lv (.long a.toInt64 :: r) h g nx kc ks Q) : mj_W M pc lv (.int a :: r) h g nx kc ks Q := by
  intro E p l e R s m args below meth c A Z hC H locs ls cells slots hJ hl
  obtain ⟨hdg, hn, hxb⟩ := hC.dec hd
  subst hn
  exact lv_i2l hC.x hC.b hdg rfl (k E p l e R s m args below meth c A Z hC H locs ls cells slots hJ hl)
theorem mj_r_l2i {a : Int64} (hd : mj_find (mj_tab M) pc = some (.l2i, 1, x, n)) (k : mj_W M n lv (.int a.toInt32 :: r) h g nx kc ks Q) : mj_W M pc lv (.long a :: r) h g nx kc ks Q := by
  intro E p l e R s m args below meth c A Z hC H locs ls cells slots hJ hl
  obtain ⟨hdg, hn, hxb⟩ := hC.dec hd
  subst hn
  exact lv_l2i hC.x hC.b hdg rfl (k E p l e R s m args below meth c A Z hC H locs ls cells slots hJ hl)
theorem mj_r_lcmp {a b : Int64} (hd : mj_find (mj_tab M) pc = some (.lcmp, 1, x, n)) (k : mj_W M n lv (.int (lg_cmp a b) :: r) h g nx kc ks Q) : mj_W M pc lv (.long b :: .long a :: r) h g nx kc ks Q := by
  intro E p l e R s m args below meth c A Z hC H locs ls cells slots hJ hl
  obtain ⟨hdg, hn, hxb⟩ := hC.dec hd
  subst hn
  exact W.lcmp hC.x hC.b hdg (k E p l e R s m args below meth c A Z hC H locs ls cells slots hJ hl)
theorem mj_r_dup {a : Value} (hd : mj_find (mj_tab M) pc = some (.dup, 1, x, n)) (hc : a.category = 1) (k : mj_W M n lv (a :: a :: r) h g nx kc ks Q) : mj_W M pc lv (a :: r) h g nx kc ks Q := by
  intro E p l e R s m args below meth c A Z hC H locs ls cells slots hJ hl
  obtain ⟨hdg, hn, hxb⟩ := hC.dec hd
  subst hn
  exact lv_dup hC.x hC.b hdg (by rw [mj_v_cat]; exact hc) (k E p l e R s m args below meth c A Z hC H locs ls cells slots hJ hl)
theorem mj_r_pop {a : Value} (hd : mj_find (mj_tab M) pc = some (.pop, 1, x, n)) (hc : a.category = 1) (k : mj_W M n lv r h g nx kc ks Q) : mj_W M pc lv (a :: r) h g nx kc ks Q := by
  intro E p l e R s m args below meth c A Z hC H locs ls cells slots hJ hl
  obtain ⟨hdg, hn, hxb⟩ := hC.dec hd
  subst hn
  exact lv_pop hC.x hC.b hdg (by rw [mj_v_cat]; exact hc) (k E p l e R s m args below meth c A Z hC H locs ls cells slots hJ hl)
theorem mj_r_dup2 {a b : Value} (hd : mj_find (mj_tab M) pc = some (.dup2, 1, x, n)) (hc : a.category = 1) (hc2 : b.category = 1) (k : mj_W M n lv (a :: b :: a :: b :: r) h g nx kc ks Q) : mj_W M pc lv (a :: b :: r) h g nx kc ks Q := by
  intro E p l e R s m args below meth c A Z hC H locs ls cells slots hJ hl
  obtain ⟨hdg, hn, hxb⟩ := hC.dec hd
  subst hn
  exact lv_dup2_11 hC.x hC.b hdg (by rw [mj_v_cat]; exact hc) (by rw [mj_v_cat]; exact hc2) (k E p l e R s m args below meth c A Z hC H locs ls cells slots hJ hl)
theorem mj_r_goto {o : Int} {t : Nat} (hd : mj_find (mj_tab M) pc = some (.goto o, 3, x, n)) (hx : x = .retAddr t) (k : mj_W M t lv st h g nx kc ks Q) : mj_W M pc lv st h g nx kc ks Q := by
  intro E p l e R s m args below meth c A Z hC H locs ls cells slots hJ hl
  obtain ⟨hdg, hn, hxb⟩ := hC.dec hd
  subst hn
  subst hx
  have e1 : (pc : Int) + o = t := by simpa [mj_xb] using hxb
  exact lv_goto hC.x hC.b hdg e1 (k E p l e R s m args below meth c A Z hC H locs ls cells slots hJ hl)
theorem mj_r_ifnull_r {o : Int} {a : Nat} (hd : mj_find (mj_tab M) pc = some (.ifnull o, 3, x, n)) (k : mj_W M n lv r h g nx kc ks Q) : mj_W M pc lv (.ref a :: r) h g nx kc ks Q := by
  intro E p l e R s m args below meth c A Z hC H locs ls cells slots hJ hl
  obtain ⟨hdg, hn, hxb⟩ := hC.dec hd
  subst hn
  exact lv_ifnull hC.x hC.b hdg (k E p l e R s m args below meth c A Z hC H locs ls cells slots hJ hl)
theorem mj_r_ifnull_n {o : Int} {t : Nat} (hd : mj_find (mj_tab M) pc = some (.ifnull o, 3, x, n)) (hx : x = .retAddr t) (k : mj_W M t lv r h g nx kc ks Q) : mj_W M pc lv (.null :: r) h g nx kc ks Q := by
  intro E p l e R s m args below meth c A Z hC H locs ls cells slots hJ hl
  obtain ⟨hdg, hn, hxb⟩ := hC.dec hd
  subst hn
  subst hx
  have e1 : (pc : Int) + o = t := by simpa [mj_xb] using hxb
  exact lv_ifnullN hC.x hC.b hdg e1 (k E p l e R s m args below meth c A Z hC H locs ls cells slots hJ hl)
theorem mj_r_ifnonnull_r {o : Int} {t a : Nat} (hd : mj_find (mj_tab M) pc = some (.ifnonnull o, 3, x, n)) (hx : x = .retAddr t) (k : mj_W M t lv r h g nx kc ks Q) : mj_W M pc lv (.ref a :: r) h g nx kc ks Q := by
  intro E p l e R s m args below meth c A Z hC H locs ls cells slots hJ hl
  obtain ⟨hdg, hn, hxb⟩ := hC.dec hd
  subst hn
  subst hx
  have e1 : (pc : Int) + o = t := by simpa [mj_xb] using hxb
  exact lv_ifnonnull hC.x hC.b hdg e1 (k E p l e R s m args below meth c A Z hC H locs ls cells slots hJ hl)
theorem mj_r_ifnonnull_n {o : Int} (hd : mj_find (mj_tab M) pc = some (.ifnonnull o, 3, x, n)) (k : mj_W M n lv r h g nx kc ks Q) : mj_W M pc lv (.null :: r) h g nx kc ks Q := by
  intro E p l e R s m args below meth c A Z hC H locs ls cells slots hJ hl
  obtain ⟨hdg, hn, hxb⟩ := hC.dec hd
  subst hn
  exact lv_ifnonnullN hC.x hC.b hdg (k E p l e R s m args below meth c A Z hC H locs ls cells slots hJ hl)
theorem mj_r_if_eq {o : Int} {t : Nat} {a : Int32} (hd : mj_find (mj_tab M) pc = some (.ifCond .eq o, 3, .retAddr t, n)) (kt : a = 0 → mj_W M t lv r h g nx kc ks Q) (kf : ¬ a = 0 → mj_W M n lv r h g nx kc ks Q) : mj_W M pc lv (.int a :: r) h g nx kc ks Q := by
  intro E p l e R s m args below meth c A Z hC H locs ls cells slots hJ hl
  obtain ⟨hdg, hn, hxb⟩ := hC.dec hd
  subst hn
  have e1 : (pc : Int) + o = t := by simpa [mj_xb] using hxb
  exact lv_if_eq hC.x hC.b hdg e1 (fun q => kt q E p l e R s m args below meth c A Z hC H locs ls cells slots hJ hl) (fun q => kf q E p l e R s m args below meth c A Z hC H locs ls cells slots hJ hl)
theorem mj_r_if_ne {o : Int} {t : Nat} {a : Int32} (hd : mj_find (mj_tab M) pc = some (.ifCond .ne o, 3, .retAddr t, n)) (kt : ¬ a = 0 → mj_W M t lv r h g nx kc ks Q) (kf : a = 0 → mj_W M n lv r h g nx kc ks Q) : mj_W M pc lv (.int a :: r) h g nx kc ks Q := by
  intro E p l e R s m args below meth c A Z hC H locs ls cells slots hJ hl
  obtain ⟨hdg, hn, hxb⟩ := hC.dec hd
  subst hn
  have e1 : (pc : Int) + o = t := by simpa [mj_xb] using hxb
  exact lv_if_ne hC.x hC.b hdg e1 (fun q => kt q E p l e R s m args below meth c A Z hC H locs ls cells slots hJ hl) (fun q => kf q E p l e R s m args below meth c A Z hC H locs ls cells slots hJ hl)
theorem mj_r_if_lt {o : Int} {t : Nat} {a : Int32} (hd : mj_find (mj_tab M) pc = some (.ifCond .lt o, 3, .retAddr t, n)) (kt : a < 0 → mj_W M t lv r h g nx kc ks Q) (kf : ¬ a < 0 → mj_W M n lv r h g nx kc ks Q) : mj_W M pc lv (.int a :: r) h g nx kc ks Q := by
  intro E p l e R s m args below meth c A Z hC H locs ls cells slots hJ hl
  obtain ⟨hdg, hn, hxb⟩ := hC.dec hd
  subst hn
  have e1 : (pc : Int) + o = t := by simpa [mj_xb] using hxb
  exact lv_if_lt hC.x hC.b hdg e1 (fun q => kt q E p l e R s m args below meth c A Z hC H locs ls cells slots hJ hl) (fun q => kf q E p l e R s m args below meth c A Z hC H locs ls cells slots hJ hl)
theorem mj_r_if_ge {o : Int} {t : Nat} {a : Int32} (hd : mj_find (mj_tab M) pc = some (.ifCond .ge o, 3, .retAddr t, n)) (kt : 0 ≤ a → mj_W M t lv r h g nx kc ks Q) (kf : ¬ 0 ≤ a → mj_W M n lv r h g nx kc ks Q) : mj_W M pc lv (.int a :: r) h g nx kc ks Q := by
  intro E p l e R s m args below meth c A Z hC H locs ls cells slots hJ hl
  obtain ⟨hdg, hn, hxb⟩ := hC.dec hd
  subst hn
  have e1 : (pc : Int) + o = t := by simpa [mj_xb] using hxb
  exact lv_if_ge hC.x hC.b hdg e1 (fun q => kt q E p l e R s m args below meth c A Z hC H locs ls cells slots hJ hl) (fun q => kf q E p l e R s m args below meth c A Z hC H locs ls cells slots hJ hl)
theorem mj_r_if_gt {o : Int} {t : Nat} {a : Int32} (hd : mj_find (mj_tab M) pc = some (.ifCond .gt o, 3, .retAddr t, n)) (kt : 0 < a → mj_W M t lv r h g nx kc ks Q) (kf : ¬ 0 < a → mj_W M n lv r h g nx kc ks Q) : mj_W M pc lv (.int a :: r) h g nx kc ks Q := by
  intro E p l e R s m args below meth c A Z hC H locs ls cells slots hJ hl
  obtain ⟨hdg, hn, hxb⟩ := hC.dec hd
  subst hn
  have e1 : (pc : Int) + o = t := by simpa [mj_xb] using hxb
  exact lv_if_gt hC.x hC.b hdg e1 (fun q => kt q E p l e R s m args below meth c A Z hC H locs ls cells slots hJ hl) (fun q => kf q E p l e R s m args below meth c A Z hC H locs ls cells slots hJ hl)
theorem mj_r_if_le {o : Int} {t : Nat} {a : Int32} (hd : mj_find (mj_tab M) pc = some (.ifCond .le o, 3, .retAddr t, n)) (kt : a ≤ 0 → mj_W M t lv r h g nx kc ks Q) (kf : ¬ a ≤ 0 → mj_W M n lv r h g nx kc ks Q) : mj_W M pc lv (.int a :: r) h g nx kc ks Q := by
  intro E p l e R s m args below meth c A Z hC H locs ls cells slots hJ hl
  obtain ⟨hdg, hn, hxb⟩ := hC.dec hd
  subst hn
  have e1 : (pc : Int) + o = t := by simpa [mj_xb] using hxb
  exact lv_if_le hC.x hC.b hdg e1 (fun q => kt q E p l e R s m args below meth c A Z hC H locs ls cells slots hJ hl) (fun q => kf q E p l e R s m args below meth c A Z hC H locs ls cells slots hJ hl)
theorem mj_r_icmp_eq {o : Int} {t : Nat} {a b : Int32} (hd : mj_find (mj_tab M) pc = some (.if_icmp .eq o, 3, .retAddr t, n)) (kt : a = b → mj_W M t lv r h g nx kc ks Q) (kf : ¬ a = b → mj_W M n lv r h g nx kc ks Q) : mj_W M pc lv (.int b :: .int a :: r) h g nx kc ks Q := by
  intro E p l e R s m args below meth c A Z hC H locs ls cells slots hJ hl
  obtain ⟨hdg, hn, hxb⟩ := hC.dec hd
  subst hn
  have e1 : (pc : Int) + o = t := by simpa [mj_xb] using hxb
  exact lv_icmp_eq hC.x hC.b hdg e1 (fun q => kt q E p l e R s m args below meth c A Z hC H locs ls cells slots hJ hl) (fun q => kf q E p l e R s m args below meth c A Z hC H locs ls cells slots hJ hl)
theorem mj_r_icmp_ne {o : Int} {t : Nat} {a b : Int32} (hd : mj_find (mj_tab M) pc = some (.if_icmp .ne o, 3, .retAddr t, n)) (kt : ¬ a = b → mj_W M t lv r h g nx kc ks Q) (kf : a = b → mj_W M n lv r h g nx kc ks Q) : mj_W M pc lv (.int b :: .int a :: r) h g nx kc ks Q := by
  intro E p l e R s m args below meth c A Z hC H locs ls cells slots hJ hl
  obtain ⟨hdg, hn, hxb⟩ := hC.dec hd
  subst hn
  have e1 : (pc : Int) + o = t := by simpa [mj_xb] using hxb
  exact lv_icmp_ne hC.x hC.b hdg e1 (fun q => kt q E p l e R s m args below meth c A Z hC H locs ls cells slots hJ hl) (fun q => kf q E p l e R s m args below meth c A Z hC H locs ls cells slots hJ hl)
theorem mj_r_icmp_lt {o : Int} {t : Nat} {a b : Int32} (hd : mj_find (mj_tab M) pc = some (.if_icmp .lt o, 3, .retAddr t, n)) (kt : a < b → mj_W M t lv r h g nx kc ks Q) (kf : ¬ a < b → mj_W M n lv r h g nx kc ks Q) : mj_W M pc lv (.int b :: .int a :: r) h g nx kc ks Q := by
  intro E p l e R s m args below meth c A Z hC H locs ls cells slots hJ hl
  obtain ⟨hdg, hn, hxb⟩ := hC.dec hd
  subst hn
  have e1 : (pc : Int) + o = t := by simpa [mj_xb] using hxb
  exact lv_icmp_lt hC.x hC.b hdg e1 (fun q => kt q E p l e R s m args below meth c A Z hC H locs ls cells slots hJ hl) (fun q => kf q E p l e R s m args below meth c A Z hC H locs ls cells slots hJ hl)
theorem mj_r_icmp_ge {o : Int} {t : Nat} {a b : Int32} (hd : mj_find (mj_tab M) pc = some (.if_icmp .ge o, 3, .retAddr t, n)) (kt : b ≤ a → mj_W M t lv r h g nx kc ks Q) (kf : ¬ b ≤ a → mj_W M n lv r h g nx kc ks Q) : mj_W M pc lv (.int b :: .int a :: r) h g nx kc ks Q := by
  intro E p l e R s m args below meth c A Z hC H locs ls cells slots hJ hl
  obtain ⟨hdg, hn, hxb⟩ := hC.dec hd
  subst hn
  have e1 : (pc : Int) + o = t := by simpa [mj_xb] using hxb
  exact lv_icmp_ge hC.x hC.b hdg e1 (fun q => kt q E p l e R s m args below meth c A Z hC H locs ls cells slots hJ hl) (fun q => kf q E p l e R s m args below meth c A Z hC H locs ls cells slots hJ hl)
theorem mj_r_icmp_gt {o : Int} {t : Nat} {a b : Int32} (hd : mj_find (mj_tab M) pc = some (.if_icmp .gt o, 3, .retAddr t, n)) (kt : b < a → mj_W M t lv r h g nx kc ks Q) (kf : ¬ b < a → mj_W M n lv r h g nx kc ks Q) : mj_W M pc lv (.int b :: .int a :: r) h g nx kc ks Q := by
  intro E p l e R s m args below meth c A Z hC H locs ls cells slots hJ hl
  obtain ⟨hdg, hn, hxb⟩ := hC.dec hd
  subst hn
  have e1 : (pc : Int) + o = t := by simpa [mj_xb] using hxb
  exact lv_icmp_gt hC.x hC.b hdg e1 (fun q => kt q E p l e R s m args below meth c A Z hC H locs ls cells slots hJ hl) (fun q => kf q E p l e R s m args below meth c A Z hC H locs ls cells slots hJ hl)
theorem mj_r_icmp_le {o : Int} {t : Nat} {a b : Int32} (hd : mj_find (mj_tab M) pc = some (.if_icmp .le o, 3, .retAddr t, n)) (kt : a ≤ b → mj_W M t lv r h g nx kc ks Q) (kf : ¬ a ≤ b → mj_W M n lv r h g nx kc ks Q) : mj_W M pc lv (.int b :: .int a :: r) h g nx kc ks Q := by
  intro E p l e R s m args below meth c A Z hC H locs ls cells slots hJ hl
  obtain ⟨hdg, hn, hxb⟩ := hC.dec hd
  subst hn
  have e1 : (pc : Int) + o = t := by simpa [mj_xb] using hxb
  exact lv_icmp_le hC.x hC.b hdg e1 (fun q => kt q E p l e R s m args below meth c A Z hC H locs ls cells slots hJ hl) (fun q => kf q E p l e R s m args below meth c A Z hC H locs ls cells slots hJ hl)
end MJR
