/-! ROWS THAT READ AND WRITE CELLS -/
/-- a field: 0 int, 1 long, 2 boolean, 3 a reference; whether it is final -/
def mj_kt : List (List (Nat × Bool)) := [[(3, true), (0, true), (3, true)], [(0, true), (0, true), (0, true), (1, true), (0, false), (0, false), (0, false)], [(3, true), (3, true), (0, false), (0, false), (3, true), (0, false), (0, false)], [(0, true), (3, true), (0, false), (0, false), (0, false), (1, false), (1, false), (2, false), (1, false), (0, false), (0, false), (0, false)], [(0, true), (0, true), (0, true), (0, true)], [(3, true), (3, true), (0, false), (0, false)], [(0, false), (0, false), (3, true)], [(0, false), (1, false), (0, false), (3, true)], [(3, true), (0, false)], [(3, true), (0, false), (3, false), (3, true), (3, true), (3, true)], [(3, true), (3, true), (3, true), (3, true), (0, false), (0, false), (3, true), (3, true), (3, true), (3, true), (0, false), (0, false), (3, true), (0, false), (3, true), (0, false), (3, true), (3, true), (3, true), (3, true), (3, true), (0, false), (3, true), (3, true), (3, true), (3, true), (3, true), (3, true), (3, true), (3, true), (3, true), (3, true), (3, true), (3, true), (0, false), (1, false), (0, false), (3, true), (3, true), (3, true)]]
def mj_kf (ci k : Nat) : Option (Nat × Bool) := match mj_kt[ci]? with
  | some l => l[k]?
  | none => none
def mj_kty : Nat → FieldType → Prop
  | 0, ty => ty = .int
  | 1, ty => ty = .long
  | 2, ty => ty = .boolean
  | _, ty => (∃ C, ty = .object C) ∨ ∃ t, ty = .array t
def mj_kfok (r : vw_C) (l : List (Nat × Bool)) : Prop := l.length = r.2.2 ∧ ∀ k q, l[k]? = some q → (r.2.1 k).2.2.2 = q.2 ∧ ∃ ty, parseFieldDescriptor (r.2.1 k).2.2.1 = some ty ∧ mj_kty q.1 ty
theorem kf_0 : mj_kfok (RX0, TX0, 3) [(3, true), (0, true), (3, true)] := ⟨rfl, fun k q h => match k, h with
  | 0, h => by cases h; exact ⟨rfl, tyX0 0, tyX0_ok 0 (by decide), Or.inl ⟨_, rfl⟩⟩
  | 1, h => by cases h; exact ⟨rfl, tyX0 1, tyX0_ok 1 (by decide), rfl⟩
  | 2, h => by cases h; exact ⟨rfl, tyX0 2, tyX0_ok 2 (by decide), Or.inr ⟨_, rfl⟩⟩
  | k + 3, h => by simp at h⟩
theorem kf_1 : mj_kfok (RX1, TX1, 7) [(0, true), (0, true), (0, true), (1, true), (0, false), (0, false), (0, false)] := ⟨rfl, fun k q h => match k, h with
  | 0, h => by cases h; exact ⟨rfl, tyX1 0, tyX1_ok 0 (by decide), rfl⟩
  | 1, h => by cases h; exact ⟨rfl, tyX1 1, tyX1_ok 1 (by decide), rfl⟩
  | 2, h => by cases h; exact ⟨rfl, tyX1 2, tyX1_ok 2 (by decide), rfl⟩
  | 3, h => by cases h; exact ⟨rfl, tyX1 3, tyX1_ok 3 (by decide), rfl⟩
  | 4, h => by cases h; exact ⟨rfl, tyX1 4, tyX1_ok 4 (by decide), rfl⟩
  | 5, h => by cases h; exact ⟨rfl, tyX1 5, tyX1_ok 5 (by decide), rfl⟩
  | 6, h => by cases h; exact ⟨rfl, tyX1 6, tyX1_ok 6 (by decide), rfl⟩
  | k + 7, h => by simp at h⟩
theorem kf_2 : mj_kfok (RX2, TX2, 7) [(3, true), (3, true), (0, false), (0, false), (3, true), (0, false), (0, false)] := ⟨rfl, fun k q h => match k, h with
  | 0, h => by cases h; exact ⟨rfl, tyX2 0, tyX2_ok 0 (by decide), Or.inr ⟨_, rfl⟩⟩
  | 1, h => by cases h; exact ⟨rfl, tyX2 1, tyX2_ok 1 (by decide), Or.inr ⟨_, rfl⟩⟩
  | 2, h => by cases h; exact ⟨rfl, tyX2 2, tyX2_ok 2 (by decide), rfl⟩
  | 3, h => by cases h; exact ⟨rfl, tyX2 3, tyX2_ok 3 (by decide), rfl⟩
  | 4, h => by cases h; exact ⟨rfl, tyX2 4, tyX2_ok 4 (by decide), Or.inr ⟨_, rfl⟩⟩
  | 5, h => by cases h; exact ⟨rfl, tyX2 5, tyX2_ok 5 (by decide), rfl⟩
  | 6, h => by cases h; exact ⟨rfl, tyX2 6, tyX2_ok 6 (by decide), rfl⟩
  | k + 7, h => by simp at h⟩
theorem kf_3 : mj_kfok (RX3, TX3, 12) [(0, true), (3, true), (0, false), (0, false), (0, false), (1, false), (1, false), (2, false), (1, false), (0, false), (0, false), (0, false)] := ⟨rfl, fun k q h => match k, h with
  | 0, h => by cases h; exact ⟨rfl, tyX3 0, tyX3_ok 0 (by decide), rfl⟩
  | 1, h => by cases h; exact ⟨rfl, tyX3 1, tyX3_ok 1 (by decide), Or.inl ⟨_, rfl⟩⟩
  | 2, h => by cases h; exact ⟨rfl, tyX3 2, tyX3_ok 2 (by decide), rfl⟩
  | 3, h => by cases h; exact ⟨rfl, tyX3 3, tyX3_ok 3 (by decide), rfl⟩
  | 4, h => by cases h; exact ⟨rfl, tyX3 4, tyX3_ok 4 (by decide), rfl⟩
  | 5, h => by cases h; exact ⟨rfl, tyX3 5, tyX3_ok 5 (by decide), rfl⟩
  | 6, h => by cases h; exact ⟨rfl, tyX3 6, tyX3_ok 6 (by decide), rfl⟩
  | 7, h => by cases h; exact ⟨rfl, tyX3 7, tyX3_ok 7 (by decide), rfl⟩
  | 8, h => by cases h; exact ⟨rfl, tyX3 8, tyX3_ok 8 (by decide), rfl⟩
  | 9, h => by cases h; exact ⟨rfl, tyX3 9, tyX3_ok 9 (by decide), rfl⟩
  | 10, h => by cases h; exact ⟨rfl, tyX3 10, tyX3_ok 10 (by decide), rfl⟩
  | 11, h => by cases h; exact ⟨rfl, tyX3 11, tyX3_ok 11 (by decide), rfl⟩
  | k + 12, h => by simp at h⟩
theorem kf_4 : mj_kfok (RX4, TX4, 4) [(0, true), (0, true), (0, true), (0, true)] := ⟨rfl, fun k q h => match k, h with
  | 0, h => by cases h; exact ⟨rfl, tyX4 0, tyX4_ok 0 (by decide), rfl⟩
  | 1, h => by cases h; exact ⟨rfl, tyX4 1, tyX4_ok 1 (by decide), rfl⟩
  | 2, h => by cases h; exact ⟨rfl, tyX4 2, tyX4_ok 2 (by decide), rfl⟩
  | 3, h => by cases h; exact ⟨rfl, tyX4 3, tyX4_ok 3 (by decide), rfl⟩
  | k + 4, h => by simp at h⟩
theorem kf_5 : mj_kfok (RX5, TX5, 4) [(3, true), (3, true), (0, false), (0, false)] := ⟨rfl, fun k q h => match k, h with
  | 0, h => by cases h; exact ⟨rfl, tyX5 0, tyX5_ok 0 (by decide), Or.inr ⟨_, rfl⟩⟩
  | 1, h => by cases h; exact ⟨rfl, tyX5 1, tyX5_ok 1 (by decide), Or.inr ⟨_, rfl⟩⟩
  | 2, h => by cases h; exact ⟨rfl, tyX5 2, tyX5_ok 2 (by decide), rfl⟩
  | 3, h => by cases h; exact ⟨rfl, tyX5 3, tyX5_ok 3 (by decide), rfl⟩
  | k + 4, h => by simp at h⟩
theorem kf_6 : mj_kfok (RX6, TX6, 3) [(0, false), (0, false), (3, true)] := ⟨rfl, fun k q h => match k, h with
  | 0, h => by cases h; exact ⟨rfl, tyX6 0, tyX6_ok 0 (by decide), rfl⟩
  | 1, h => by cases h; exact ⟨rfl, tyX6 1, tyX6_ok 1 (by decide), rfl⟩
  | 2, h => by cases h; exact ⟨rfl, tyX6 2, tyX6_ok 2 (by decide), Or.inr ⟨_, rfl⟩⟩
  | k + 3, h => by simp at h⟩
theorem kf_7 : mj_kfok (RX7, TX7, 4) [(0, false), (1, false), (0, false), (3, true)] := ⟨rfl, fun k q h => match k, h with
  | 0, h => by cases h; exact ⟨rfl, tyX7 0, tyX7_ok 0 (by decide), rfl⟩
  | 1, h => by cases h; exact ⟨rfl, tyX7 1, tyX7_ok 1 (by decide), rfl⟩
  | 2, h => by cases h; exact ⟨rfl, tyX7 2, tyX7_ok 2 (by decide), rfl⟩
  | 3, h => by cases h; exact ⟨rfl, tyX7 3, tyX7_ok 3 (by decide), Or.inr ⟨_, rfl⟩⟩
  | k + 4, h => by simp at h⟩
theorem kf_8 : mj_kfok (RX8, TX8, 2) [(3, true), (0, false)] := ⟨rfl, fun k q h => match k, h with
  | 0, h => by cases h; exact ⟨rfl, tyX8 0, tyX8_ok 0 (by decide), Or.inr ⟨_, rfl⟩⟩
  | 1, h => by cases h; exact ⟨rfl, tyX8 1, tyX8_ok 1 (by decide), rfl⟩
  | k + 2, h => by simp at h⟩
theorem kf_9 : mj_kfok (RX9, TX9, 6) [(3, true), (0, false), (3, false), (3, true), (3, true), (3, true)] := ⟨rfl, fun k q h => match k, h with
  | 0, h => by cases h; exact ⟨rfl, tyX9 0, tyX9_ok 0 (by decide), Or.inr ⟨_, rfl⟩⟩
  | 1, h => by cases h; exact ⟨rfl, tyX9 1, tyX9_ok 1 (by decide), rfl⟩
  | 2, h => by cases h; exact ⟨rfl, tyX9 2, tyX9_ok 2 (by decide), Or.inl ⟨_, rfl⟩⟩
  | 3, h => by cases h; exact ⟨rfl, tyX9 3, tyX9_ok 3 (by decide), Or.inl ⟨_, rfl⟩⟩
  | 4, h => by cases h; exact ⟨rfl, tyX9 4, tyX9_ok 4 (by decide), Or.inl ⟨_, rfl⟩⟩
  | 5, h => by cases h; exact ⟨rfl, tyX9 5, tyX9_ok 5 (by decide), Or.inl ⟨_, rfl⟩⟩
  | k + 6, h => by simp at h⟩
theorem kf_10 : mj_kfok (RX10, TX10, 40) [(3, true), (3, true), (3, true), (3, true), (0, false), (0, false), (3, true), (3, true), (3, true), (3, true), (0, false), (0, false), (3, true), (0, false), (3, true), (0, false), (3, true), (3, true), (3, true), (3, true), (3, true), (0, false), (3, true), (3, true), (3, true), (3, true), (3, true), (3, true), (3, true), (3, true), (3, true), (3, true), (3, true), (3, true), (0, false), (1, false), (0, false), (3, true), (3, true), (3, true)] := ⟨rfl, fun k q h => match k, h with
  | 0, h => by cases h; exact ⟨rfl, tyX10 0, tyX10_ok 0 (by decide), Or.inr ⟨_, rfl⟩⟩
  | 1, h => by cases h; exact ⟨rfl, tyX10 1, tyX10_ok 1 (by decide), Or.inr ⟨_, rfl⟩⟩
  | 2, h => by cases h; exact ⟨rfl, tyX10 2, tyX10_ok 2 (by decide), Or.inr ⟨_, rfl⟩⟩
  | 3, h => by cases h; exact ⟨rfl, tyX10 3, tyX10_ok 3 (by decide), Or.inr ⟨_, rfl⟩⟩
  | 4, h => by cases h; exact ⟨rfl, tyX10 4, tyX10_ok 4 (by decide), rfl⟩
  | 5, h => by cases h; exact ⟨rfl, tyX10 5, tyX10_ok 5 (by decide), rfl⟩
  | 6, h => by cases h; exact ⟨rfl, tyX10 6, tyX10_ok 6 (by decide), Or.inr ⟨_, rfl⟩⟩
  | 7, h => by cases h; exact ⟨rfl, tyX10 7, tyX10_ok 7 (by decide), Or.inr ⟨_, rfl⟩⟩
  | 8, h => by cases h; exact ⟨rfl, tyX10 8, tyX10_ok 8 (by decide), Or.inr ⟨_, rfl⟩⟩
  | 9, h => by cases h; exact ⟨rfl, tyX10 9, tyX10_ok 9 (by decide), Or.inr ⟨_, rfl⟩⟩
  | 10, h => by cases h; exact ⟨rfl, tyX10 10, tyX10_ok 10 (by decide), rfl⟩
  | 11, h => by cases h; exact ⟨rfl, tyX10 11, tyX10_ok 11 (by decide), rfl⟩
  | 12, h => by cases h; exact ⟨rfl, tyX10 12, tyX10_ok 12 (by decide), Or.inr ⟨_, rfl⟩⟩
  | 13, h => by cases h; exact ⟨rfl, tyX10 13, tyX10_ok 13 (by decide), rfl⟩
  | 14, h => by cases h; exact ⟨rfl, tyX10 14, tyX10_ok 14 (by decide), Or.inr ⟨_, rfl⟩⟩
  | 15, h => by cases h; exact ⟨rfl, tyX10 15, tyX10_ok 15 (by decide), rfl⟩
  | 16, h => by cases h; exact ⟨rfl, tyX10 16, tyX10_ok 16 (by decide), Or.inr ⟨_, rfl⟩⟩
  | 17, h => by cases h; exact ⟨rfl, tyX10 17, tyX10_ok 17 (by decide), Or.inr ⟨_, rfl⟩⟩
  | 18, h => by cases h; exact ⟨rfl, tyX10 18, tyX10_ok 18 (by decide), Or.inr ⟨_, rfl⟩⟩
  | 19, h => by cases h; exact ⟨rfl, tyX10 19, tyX10_ok 19 (by decide), Or.inr ⟨_, rfl⟩⟩
  | 20, h => by cases h; exact ⟨rfl, tyX10 20, tyX10_ok 20 (by decide), Or.inr ⟨_, rfl⟩⟩
  | 21, h => by cases h; exact ⟨rfl, tyX10 21, tyX10_ok 21 (by decide), rfl⟩
  | 22, h => by cases h; exact ⟨rfl, tyX10 22, tyX10_ok 22 (by decide), Or.inr ⟨_, rfl⟩⟩
  | 23, h => by cases h; exact ⟨rfl, tyX10 23, tyX10_ok 23 (by decide), Or.inr ⟨_, rfl⟩⟩
  | 24, h => by cases h; exact ⟨rfl, tyX10 24, tyX10_ok 24 (by decide), Or.inr ⟨_, rfl⟩⟩
  | 25, h => by cases h; exact ⟨rfl, tyX10 25, tyX10_ok 25 (by decide), Or.inr ⟨_, rfl⟩⟩
  | 26, h => by cases h; exact ⟨rfl, tyX10 26, tyX10_ok 26 (by decide), Or.inr ⟨_, rfl⟩⟩
  | 27, h => by cases h; exact ⟨rfl, tyX10 27, tyX10_ok 27 (by decide), Or.inr ⟨_, rfl⟩⟩
  | 28, h => by cases h; exact ⟨rfl, tyX10 28, tyX10_ok 28 (by decide), Or.inr ⟨_, rfl⟩⟩
  | 29, h => by cases h; exact ⟨rfl, tyX10 29, tyX10_ok 29 (by decide), Or.inr ⟨_, rfl⟩⟩
  | 30, h => by cases h; exact ⟨rfl, tyX10 30, tyX10_ok 30 (by decide), Or.inr ⟨_, rfl⟩⟩
  | 31, h => by cases h; exact ⟨rfl, tyX10 31, tyX10_ok 31 (by decide), Or.inr ⟨_, rfl⟩⟩
  | 32, h => by cases h; exact ⟨rfl, tyX10 32, tyX10_ok 32 (by decide), Or.inr ⟨_, rfl⟩⟩
  | 33, h => by cases h; exact ⟨rfl, tyX10 33, tyX10_ok 33 (by decide), Or.inr ⟨_, rfl⟩⟩
  | 34, h => by cases h; exact ⟨rfl, tyX10 34, tyX10_ok 34 (by decide), rfl⟩
  | 35, h => by cases h; exact ⟨rfl, tyX10 35, tyX10_ok 35 (by decide), rfl⟩
  | 36, h => by cases h; exact ⟨rfl, tyX10 36, tyX10_ok 36 (by decide), rfl⟩
  | 37, h => by cases h; exact ⟨rfl, tyX10 37, tyX10_ok 37 (by decide), Or.inr ⟨_, rfl⟩⟩
  | 38, h => by cases h; exact ⟨rfl, tyX10 38, tyX10_ok 38 (by decide), Or.inr ⟨_, rfl⟩⟩
  | 39, h => by cases h; exact ⟨rfl, tyX10 39, tyX10_ok 39 (by decide), Or.inr ⟨_, rfl⟩⟩
  | k + 40, h => by simp at h⟩
theorem mj_kf_ok {ci k : Nat} {r : vw_C} {q : Nat × Bool} (hr : mj_cl[ci]? = some r) (hq : mj_kf ci k = some q) : k < r.2.2 ∧ (r.2.1 k).2.2.2 = q.2 ∧ ∃ ty, parseFieldDescriptor (r.2.1 k).2.2.1 = some ty ∧ mj_kty q.1 ty := by
  have go : ∀ l, mj_kt[ci]? = some l → mj_kfok r l → k < r.2.2 ∧ (r.2.1 k).2.2.2 = q.2 ∧ ∃ ty, parseFieldDescriptor (r.2.1 k).2.2.1 = some ty ∧ mj_kty q.1 ty := fun l hl hk => by
    unfold mj_kf at hq
    rw [hl] at hq
    have h1 := hk.2 k q hq
    exact ⟨by rw [← hk.1]; exact (List.getElem?_eq_some_iff.mp hq).1, h1⟩
  match ci, hr with
  | 0, hr => cases hr; exact go _ rfl kf_0
  | 1, hr => cases hr; exact go _ rfl kf_1
  | 2, hr => cases hr; exact go _ rfl kf_2
  | 3, hr => cases hr; exact go _ rfl kf_3
  | 4, hr => cases hr; exact go _ rfl kf_4
  | 5, hr => cases hr; exact go _ rfl kf_5
  | 6, hr => cases hr; exact go _ rfl kf_6
  | 7, hr => cases hr; exact go _ rfl kf_7
  | 8, hr => cases hr; exact go _ rfl kf_8
  | 9, hr => cases hr; exact go _ rfl kf_9
  | 10, hr => cases hr; exact go _ rfl kf_10
  | k + 11, hr => exact absurd hr (by simp [mj_cl])
theorem mj_kt_len {ci : Nat} {r : vw_C} (hr : mj_cl[ci]? = some r) : ∃ l, mj_kt[ci]? = some l ∧ mj_kfok r l := by
  match ci, hr with
  | 0, hr => cases hr; exact ⟨_, rfl, kf_0⟩
  | 1, hr => cases hr; exact ⟨_, rfl, kf_1⟩
  | 2, hr => cases hr; exact ⟨_, rfl, kf_2⟩
  | 3, hr => cases hr; exact ⟨_, rfl, kf_3⟩
  | 4, hr => cases hr; exact ⟨_, rfl, kf_4⟩
  | 5, hr => cases hr; exact ⟨_, rfl, kf_5⟩
  | 6, hr => cases hr; exact ⟨_, rfl, kf_6⟩
  | 7, hr => cases hr; exact ⟨_, rfl, kf_7⟩
  | 8, hr => cases hr; exact ⟨_, rfl, kf_8⟩
  | 9, hr => cases hr; exact ⟨_, rfl, kf_9⟩
  | 10, hr => cases hr; exact ⟨_, rfl, kf_10⟩
  | k + 11, hr => exact absurd hr (by simp [mj_cl])
def mj_fv : Nat → Value → Bool
  | 0, .int _ => true
  | 1, .long _ => true
  | 2, .int v => decide (v = 0) || decide (v = 1)
  | 3, .ref _ => true
  | 3, .null => true
  | _, _ => false
theorem mj_fv_ok {E : mj_E} {q : Nat} {v : Value} {ty : FieldType} (h : mj_fv q v = true) (hk : mj_kty q ty) : narrow ty (mj_v E v) = mj_v E v ∧ fits ty (mj_v E v) = true := by
  unfold mj_fv at h
  split at h
  · cases hk; exact ⟨rfl, rfl⟩
  · cases hk; exact ⟨rfl, rfl⟩
  · cases hk
    rw [Bool.or_eq_true] at h
    rcases h with h | h
    · have h := of_decide_eq_true h; subst h; exact ⟨congrArg Value.int (by decide +kernel), by show fits .boolean (.int 0) = true; decide +kernel⟩
    · have h := of_decide_eq_true h; subst h; exact ⟨congrArg Value.int (by decide +kernel), by show fits .boolean (.int 1) = true; decide +kernel⟩
  · rcases hk with ⟨C, rfl⟩ | ⟨t, rfl⟩ <;> exact ⟨rfl, rfl⟩
  · rcases hk with ⟨C, rfl⟩ | ⟨t, rfl⟩ <;> exact ⟨rfl, rfl⟩
  · cases h
def mj_ls : List Value → Nat → Value → Option (List Value)
  | [], _, _ => none
  | _ :: t, 0, v => some (v :: t)
  | w :: t, k + 1, v => match mj_ls t k v with
    | some t' => some (w :: t')
    | none => none
theorem mj_ls_ok {fs : List Value} : ∀ {k : Nat} {v : Value} {fs' : List Value}, mj_ls fs k v = some fs' → fs' = fs.set k v ∧ k < fs.length := by
  induction fs with
  | nil => intro k v fs' h; cases h
  | cons w t ih =>
    intro k v fs' h
    cases k with
    | zero => cases h; exact ⟨rfl, Nat.zero_lt_succ _⟩
    | succ k =>
      unfold mj_ls at h
      split at h
      · next t' h' =>
        cases h
        obtain ⟨e1, e2⟩ := ih h'
        exact ⟨by rw [e1]; rfl, Nat.succ_lt_succ e2⟩
      · cases h
def mj_ff : mj_F → Nat → Option (Bool × Nat × Nat)
  | [], _ => none
  | e :: t, i => cond (Nat.beq e.1 i) (some e.2) (mj_ff t i)
theorem mj_ff_mem {t : mj_F} {i : Nat} {x : Bool × Nat × Nat} (h : mj_ff t i = some x) : (i, x) ∈ t := by
  induction t with
  | nil => cases h
  | cons e t ih =>
    unfold mj_ff at h
    cases hb : Nat.beq e.1 i with
    | true =>
      rw [hb] at h
      have e1 : e.1 = i := Nat.eq_of_beq_eq_true hb
      have e2 : e.2 = x := Option.some.inj h
      rw [← e1, ← e2]
      exact List.mem_cons_self
    | false =>
      rw [hb] at h
      exact List.mem_cons_of_mem _ (ih h)
def mj_fc : List (Nat × Nat) → Nat → Option Nat
  | [], _ => none
  | e :: t, i => cond (Nat.beq e.1 i) (some e.2) (mj_fc t i)
theorem mj_fc_mem {t : List (Nat × Nat)} {i : Nat} {x : Nat} (h : mj_fc t i = some x) : (i, x) ∈ t := by
  induction t with
  | nil => cases h
  | cons e t ih =>
    unfold mj_fc at h
    cases hb : Nat.beq e.1 i with
    | true =>
      rw [hb] at h
      have e1 : e.1 = i := Nat.eq_of_beq_eq_true hb
      have e2 : e.2 = x := Option.some.inj h
      rw [← e1, ← e2]
      exact List.mem_cons_self
    | false =>
      rw [hb] at h
      exact List.mem_cons_of_mem _ (ih h)
section MJH
variable {M : mj_M} {Q : mj_post} {pc len n : Nat} {x : Value} {lv lv' : List (Nat × Value)} {st r : List Value} {h g : mj_H} {nx kc ks : Nat}
theorem mj_Z.fld {E : mj_E} {p : Program} {l : Launch} {e : Env} {R : Room} {s : State} {m : MethodId} {args : Array Value} {below : List Frame} {meth : Method} {c : Code} {A : Nat → Prop} {Z : State → Prop} (hC : mj_Z M E p l e R s m args below meth c A Z Q) {idx ci k : Nat} {b : Bool} {r : vw_C} (hf : mj_ff (mj_fl M) idx = some (b, ci, k)) (hr : mj_cl[ci]? = some r) :
    k < r.2.2 ∧ (b = false → (Cond.fieldLink (mj_own M) idx r.1 (r.2.1 k).2.1 (r.2.1 k).2.2.1).before args s = true) ∧ (b = true → (Cond.fieldLinkNest (mj_own M) idx r.1 (r.2.1 k).2.1 (r.2.1 k).2.2.1 "DisputeHalving").before args s = true) := by
  obtain ⟨w, hw, hw2⟩ := hC.1.2.2.2.2.2.2.2.2.2.1.2.1 _ (mj_ff_mem hf)
  unfold mj_fw at hw
  dsimp only at hw
  rw [hr] at hw
  dsimp only at hw
  split at hw
  · next hk =>
    refine ⟨hk, fun hb => ?_, fun hb => ?_⟩
    · subst hb
      have hw := Option.some.inj hw
      rw [if_neg (by decide)] at hw
      subst hw
      exact hC.ts _ (List.mem_filter.mpr ⟨List.mem_append_right _ hw2, rfl⟩)
    · subst hb
      have hw := Option.some.inj hw
      rw [if_pos rfl] at hw
      subst hw
      exact va_Nw.use rfl (hC.k.2.1 _ (List.mem_filter.mpr ⟨hw2, rfl⟩))
  · cases hw
theorem mj_one {D : va_G} {q : Nat × va_E} {H : Heap} (h : va_at D mj_cl q H) : va_P D mj_cl [q] H := fun k x hx => by
  cases k with
  | zero => cases hx; exact h
  | succ k => simp at hx
theorem mj_r_getf {idx ci k a : Nat} {b : Bool} {fs : List Value} {v : Value} (hd : mj_find (mj_tab M) pc = some (.getfield idx, 3, x, n)) (hf : mj_ff (mj_fl M) idx = some (b, ci, k)) (ho : h.1 ci a = some fs) (hv : fs[k]? = some v) (kk : mj_W M n lv (v :: r) h g nx kc ks Q) : mj_W M pc lv (.ref a :: r) h g nx kc ks Q := by
  intro E p l e R s m args below meth c A Z hC H locs ls cells slots hJ hl
  obtain ⟨hdg, hn, hxb⟩ := hC.dec hd
  subst hn
  obtain ⟨kd, h1, -⟩ := hJ.1.1
  obtain ⟨-, -, ⟨q, hq, hlen⟩, hat⟩ := h1 ci a fs ho
  obtain ⟨hk, hl1, hl2⟩ := hC.fld hf hq
  obtain ⟨w1, w2, w3, ⟨ty, w4⟩, w5, w6⟩ := mj_kk hq
  have hv' : (fs.map (mj_v E))[k]? = some (mj_v E v) := by rw [List.getElem?_map, hv]; rfl
  cases b with
  | false => exact va_get (D := mj_D E) (ci := ci) (C := q.1) (T := q.2.1) (N := q.2.2) hC.x hC.b hC.ts w1 hC.own hC.k.1 (mj_one hat) 0 rfl hq k hk (hl1 rfl) (fun _ h9 => by rw [w6 k hk] at h9; exact h9) hv' hdg (kk E p l e R s m args below meth c A Z hC H locs ls cells slots hJ hl)
  | true => exact va_getN (D := mj_D E) (ci := ci) (C := q.1) (T := q.2.1) (N := q.2.2) hC.x hC.b hC.ts w1 hC.own hC.k.1 (mj_one hat) 0 rfl hq k hk (hl2 rfl) (fun _ h9 => by rw [w6 k hk] at h9; exact h9) hv' hdg (kk E p l e R s m args below meth c A Z hC H locs ls cells slots hJ hl)
/-- the first heap's world behind a write at a -/
theorem mj_J.w {E : mj_E} {R : Room} {s : State} {A : Nat → Prop} {h' : mj_H} {H H1 : Heap} {locs : List Loc} {cells slots a k : Nat} (hJ : mj_J E R s A h g nx kc ks H locs cells slots) (hd : ∀ q, mj_d h' q → mj_d h q ∨ q = a) (hold : mj_d h a) (hz : H1.size = H.size) (ho : ∀ q, q ≠ mj_B E + a → H1[q]? = H[q]?) (hR : mj_R E h' nx H1) : mj_J E R s A h' g nx kc ks H1 (locs ++ [⟨mj_B E + a, k⟩]) cells slots := by
  obtain ⟨j1, j2, j3, j4, j5, j6⟩ := hJ
  refine ⟨j1.w (Nat.le_refl _) hd (Or.inl hold) (by rw [hz]; exact j1.2.2.2.1) (fun q _ hq => ho q hq) hR, fun q hq => ?_, j3, j4.put hz ho (j2 a hold), j5, j6⟩
  rcases hd q hq with z | z
  · exact j2 q z
  · subst z; exact j2 _ hold
theorem mj_r_putf {idx ci k a kq : Nat} {b fin : Bool} {fs fs' : List Value} {v : Value} (hd : mj_find (mj_tab M) pc = some (.putfield idx, 3, x, n)) (hf : mj_ff (mj_fl M) idx = some (b, ci, k)) (ho : h.1 ci a = some fs) (hk : mj_kf ci k = some (kq, fin)) (hfin : (fin = false) ∨ (b = false ∧ (mj_y M).name = "<init>" ∧ mj_cn ci = mj_own M)) (hv : mj_fv kq v = true) (hs : mj_ls fs k v = some fs') (kk : mj_W M n lv r (mj_so h ci a fs') g nx kc ks Q) : mj_W M pc lv (v :: .ref a :: r) h g nx kc ks Q := by
  intro E p l e R s m args below meth c A Z hC H locs ls cells slots hJ hl
  obtain ⟨hdg, hn, hxb⟩ := hC.dec hd
  subst hn
  have hR := hJ.1.1
  obtain ⟨kd, h1, -⟩ := id hR
  obtain ⟨-, hlt, ⟨q, hq, hlen⟩, hat⟩ := h1 ci a fs ho
  obtain ⟨hkN, hl1, hl2⟩ := hC.fld hf hq
  obtain ⟨w1, w2, w3, ⟨ty0, w4⟩, w5, w6⟩ := mj_kk hq
  obtain ⟨-, hfn, ty, hty, hkty⟩ := mj_kf_ok hq hk
  obtain ⟨hnar, hfit⟩ := mj_fv_ok (E := E) hv hkty
  obtain ⟨rfl, hkl⟩ := mj_ls_ok hs
  have hap := va_apart (own := mj_own M) hC.ts w1 ty0 w4 w5 hC.k.1 hq
  obtain ⟨r0, hr0, cell, q1, q2, q3, q4⟩ := hat
  have hr : r0 = q := Option.some.inj (hr0.symm.trans hq)
  subst hr
  obtain ⟨hS, hfc, kC, hkC, hkind⟩ := hC.k.1.1 ci _ hq
  obtain ⟨cf, kf, fi, f, hi, hsl⟩ := hS k hkN
  have hi' : s.fieldFound? r0.1 (r0.2.1 k).2.1 (r0.2.1 k).2.2.1 = some (cf, kf, fi, f) := by have := w6 k hkN; rw [this] at hi; exact hi
  have hst := (u_facts hfc hkC (u_lays hC.ts w1 hkN) hi).1
  have fin1 : ∀ H1 : Heap, H1[mj_B E + a]? = some (cell.setSlot f.slot (mj_v E v)) → H1.size = H.size → (∀ q, q ≠ mj_B E + a → H1[q]? = H[q]?) → W p l e R s m args below meth c H1 (locs ++ [⟨mj_B E + a, f.slot⟩]) cells slots Z (F0 m (pc + 3) ls (r.map (mj_v E))) := fun H1 e1 e2 e3 => by
    rw [hsl] at e1
    refine kk E p l e R s m args below meth c A Z hC H1 _ ls cells slots (hJ.w (fun q hq => mj_d_so hq) (Or.inl ⟨ci, fs, ho⟩) e2 e3 (hR.so (Nat.le_refl _) hlt (Or.inl ⟨fs, ho⟩) ⟨r0, hq, by rw [List.length_set]; exact hlen⟩ ?_ (fun q _ hq => e3 (mj_B E + q) (fun z => hq (Nat.add_left_cancel z))))) hl
    refine ⟨r0, hq, t_OB.to (V := updV (vp_V (fs.map (mj_v E))) k (mj_v E v)) ⟨_, e1, q2, q3, t_set q4 hap hkN (mj_v E v)⟩ (fun j _ => ?_)⟩
    rw [vp_updV_set (by rw [List.length_map]; exact hkl), List.map_set]
  cases hfb : fin with
  | false =>
    subst hfb
    have hlay := hC.ts _ (w1 _ (u_in_lay hkN))
    unfold u_lay at hlay
    rw [if_neg (by rw [hfn]; exact Bool.false_ne_true)] at hlay
    have h6 := u_store hfc hkC hkind hlay hi hty hnar hfit
    cases b with
    | false => exact W.putK hC.x hC.b (f := f) ⟨hC.own, hl1 rfl, ⟨_, _, _, hi'⟩, hst⟩ (by rw [q2]; exact h6) q1 q3 (by rw [hsl]; exact k2_hasslot (q4 k hkN)) rfl rfl hdg fin1
    | true => exact va_WputK hC.x hC.b (f := f) hC.own (hl2 rfl) hi' hst (by rw [q2]; exact h6) q1 q3 (by rw [hsl]; exact k2_hasslot (q4 k hkN)) rfl rfl hdg fin1
  | true =>
    subst hfb
    rcases hfin with z | ⟨rfl, hnm, hcn⟩
    · cases z
    have hlay := hC.ts _ (w1 _ (u_in_lay hkN))
    unfold u_lay at hlay
    rw [if_pos hfn] at hlay
    have hcf : m.cls = cf := by
      obtain ⟨_, _, c', _, _, _, -, -, hf', -, -, -, hown2, -⟩ := Cond.laysFinal_spec hlay
      have e1 : c' = cf := by have := hi.symm.trans hf'; simp at this; exact this.1.symm
      rw [w6 k hkN] at hown2
      have hcn' : r0.1 = mj_own M := by rw [← hcn]; unfold mj_cn; rw [hq]
      rw [hcn'] at hown2
      rw [← e1]; exact Option.some.inj (hC.own.symm.trans hown2)
    have h6 := u_fits hfc hkC hkind (Or.inr hlay) hi hty hnar hfit
    exact W.putFinK hC.x hC.b hC.own (hl1 rfl) hi' hst hcf (hC.1.2.2.2.2.2.2.2.2.1.trans hnm) (by rw [q2]; exact h6) q1 q3 (by rw [hsl]; exact k2_hasslot (q4 k hkN)) rfl rfl hdg fin1

theorem mj_r_iald {a N j : Nat} {f : Nat → Int32} {i : Int32} (hd : mj_find (mj_tab M) pc = some (.iaload, 1, x, n)) (ho : h.2.1 a = some (N, f)) (hi : vp_in i N) (hj : i.toNatClampNeg = j) (kk : mj_W M n lv (.int (f j) :: r) h g nx kc ks Q) : mj_W M pc lv (.int i :: .ref a :: r) h g nx kc ks Q := by
  intro E p l e R s m args below meth c A Z hC H locs ls cells slots hJ hl
  obtain ⟨hdg, hn, hxb⟩ := hC.dec hd
  subst hn
  subst hj
  obtain ⟨kd, h1, h2, h3, h4⟩ := hJ.1.1
  obtain ⟨-, -, hat⟩ := h2 a N f ho
  exact va_iald (D := mj_D E) hC.x hC.b hC.k.1 (mj_one (q := (mj_B E + a, .inl (mj_A E 0, N, .inl f))) hat) 0 0 rfl rfl hi hdg (kk E p l e R s m args below meth c A Z hC H locs ls cells slots hJ hl)
theorem mj_r_iast {a N j : Nat} {f : Nat → Int32} {i : Int32} {v : Int32} (hd : mj_find (mj_tab M) pc = some (.iastore, 1, x, n)) (ho : h.2.1 a = some (N, f)) (hi : vp_in i N) (hj : i.toNatClampNeg = j) (kk : mj_W M n lv r (mj_si h a N (upd f j v)) g nx kc ks Q) : mj_W M pc lv (.int v :: .int i :: .ref a :: r) h g nx kc ks Q := by
  intro E p l e R s m args below meth c A Z hC H locs ls cells slots hJ hl
  obtain ⟨hdg, hn, hxb⟩ := hC.dec hd
  subst hn
  subst hj
  have hR := hJ.1.1
  obtain ⟨kd, h1, h2, h3, h4⟩ := id hR
  obtain ⟨-, hlt, hat⟩ := h2 a N f ho
  refine W.iast hC.x hC.b hat ((hC.k.1.2 0 _ rfl).1 N (fun j => .int (f j))) (fun q => by cases q) (by show ¬ (i < 0 ∨ (arrV _ _ _).slots.size ≤ _); rw [arrV_size]; exact hi) rfl rfl hdg fun H1 e1 e2 e3 => ?_
  refine kk E p l e R s m args below meth c A Z hC H1 _ ls cells slots (hJ.w (fun q hq => mj_d_si hq) (Or.inr (Or.inl ⟨_, ho⟩)) e2 e3 (hR.si (Nat.le_refl _) hlt (Or.inl ⟨_, ho⟩) ?_ (fun q _ hq => e3 (mj_B E + q) (fun z => hq (Nat.add_left_cancel z))))) hl
  rw [e1, vp_cell_i, vp_cell_i, arrV_store]
  congr 2
  funext q
  by_cases hq : q = i.toNatClampNeg
  · subst hq
    simp [updV, upd]
  · simp [updV, upd, hq]
theorem mj_r_lald {a N j : Nat} {f : Nat → Int64} {i : Int32} (hd : mj_find (mj_tab M) pc = some (.laload, 1, x, n)) (ho : h.2.2.1 a = some (N, f)) (hi : vp_in i N) (hj : i.toNatClampNeg = j) (kk : mj_W M n lv (.long (f j) :: r) h g nx kc ks Q) : mj_W M pc lv (.int i :: .ref a :: r) h g nx kc ks Q := by
  intro E p l e R s m args below meth c A Z hC H locs ls cells slots hJ hl
  obtain ⟨hdg, hn, hxb⟩ := hC.dec hd
  subst hn
  subst hj
  obtain ⟨kd, h1, h2, h3, h4⟩ := hJ.1.1
  obtain ⟨-, -, hat⟩ := h3 a N f ho
  exact va_lald (D := mj_D E) hC.x hC.b hC.k.1 (mj_one (q := (mj_B E + a, .inl (mj_A E 1, N, .inr <| .inl f))) hat) 0 1 rfl rfl hi hdg (kk E p l e R s m args below meth c A Z hC H locs ls cells slots hJ hl)
theorem mj_r_last {a N j : Nat} {f : Nat → Int64} {i : Int32} {v : Int64} (hd : mj_find (mj_tab M) pc = some (.lastore, 1, x, n)) (ho : h.2.2.1 a = some (N, f)) (hi : vp_in i N) (hj : i.toNatClampNeg = j) (kk : mj_W M n lv r (mj_sl h a N (vp_updL f j v)) g nx kc ks Q) : mj_W M pc lv (.long v :: .int i :: .ref a :: r) h g nx kc ks Q := by
  intro E p l e R s m args below meth c A Z hC H locs ls cells slots hJ hl
  obtain ⟨hdg, hn, hxb⟩ := hC.dec hd
  subst hn
  subst hj
  have hR := hJ.1.1
  obtain ⟨kd, h1, h2, h3, h4⟩ := id hR
  obtain ⟨-, hlt, hat⟩ := h3 a N f ho
  refine W.last hC.x hC.b hat ((hC.k.1.2 1 _ rfl).1 N (fun j => .long (f j))) (fun q => by cases q) (by show ¬ (i < 0 ∨ (arrV _ _ _).slots.size ≤ _); rw [arrV_size]; exact hi) rfl rfl hdg fun H1 e1 e2 e3 => ?_
  refine kk E p l e R s m args below meth c A Z hC H1 _ ls cells slots (hJ.w (fun q hq => mj_d_sl hq) (Or.inr (Or.inr (Or.inl ⟨_, ho⟩))) e2 e3 (hR.sl (Nat.le_refl _) hlt (Or.inl ⟨_, ho⟩) ?_ (fun q _ hq => e3 (mj_B E + q) (fun z => hq (Nat.add_left_cancel z))))) hl
  rw [e1, vp_cell_l, vp_cell_l, arrV_store]
  congr 2
  funext q
  by_cases hq : q = i.toNatClampNeg
  · subst hq
    simp [updV, vp_updL]
  · simp [updV, vp_updL, hq]
theorem mj_r_aald {ci a N j : Nat} {f : Nat → Option Nat} {i : Int32} {v : Value} (hd : mj_find (mj_tab M) pc = some (.aaload, 1, x, n)) (ho : h.2.2.2 ci a = some (N, f)) (hi : vp_in i N) (hj : i.toNatClampNeg = j) (hv : va_rf (f j) = v) (kk : mj_W M n lv (v :: r) h g nx kc ks Q) : mj_W M pc lv (.int i :: .ref a :: r) h g nx kc ks Q := by
  intro E p l e R s m args below meth c A Z hC H locs ls cells slots hJ hl
  obtain ⟨hdg, hn, hxb⟩ := hC.dec hd
  subst hn
  subst hj
  obtain ⟨kd, h1, h2, h3, h4⟩ := hJ.1.1
  obtain ⟨-, -, hci, hat⟩ := h4 ci a N f ho
  obtain ⟨t0, ht0⟩ := mj_ty_ao E hci
  refine va_aldq (D := mj_D E) hC.x hC.b hC.k.1 (mj_one (q := (mj_B E + a, .inl (mj_A E (2 + ci), N, .inr (.inr (.inr (.inr (fun j => (f j).map (mj_B E + ·)))))))) hat) 0 t0 rfl ht0 hi hdg ?_
  rw [← mj_v_rf, hv]
  exact kk E p l e R s m args below meth c A Z hC H locs ls cells slots hJ hl
theorem mj_r_aast {ci a N j v : Nat} {f : Nat → Option Nat} {i : Int32} {vs : List Value} (hd : mj_find (mj_tab M) pc = some (.aastore, 1, x, n)) (ho : h.2.2.2 ci a = some (N, f)) (hvo : h.1 ci v = some vs) (hi : vp_in i N) (hj : i.toNatClampNeg = j) (kk : mj_W M n lv r (mj_sr h ci a N (va_up f j (some v))) g nx kc ks Q) : mj_W M pc lv (.ref v :: .int i :: .ref a :: r) h g nx kc ks Q := by
  intro E p l e R s m args below meth c A Z hC H locs ls cells slots hJ hl
  obtain ⟨hdg, hn, hxb⟩ := hC.dec hd
  subst hn
  subst hj
  have hR := hJ.1.1
  obtain ⟨kd, h1, h2, h3, h4⟩ := id hR
  obtain ⟨-, hlt, hci, hat⟩ := h4 ci a N f ho
  obtain ⟨t0, ht0⟩ := mj_ty_ao E hci
  obtain ⟨-, -, ⟨q, hq, hlen⟩, ⟨r0, hr0, cellV, g1, g2, g3, -⟩⟩ := h1 ci v vs hvo
  have hlt2 : i.toNatClampNeg < N := Nat.not_le.mp fun q => hi (Or.inr q)
  have h0 : ¬ i < 0 := fun q => hi (Or.inl q)
  have hcls := (hC.k.1.1 ci _ hq).2
  have hcn : mj_cn ci = q.1 := by unfold mj_cn; rw [hq]
  obtain ⟨kA, comp, k1, k2, k3, -⟩ := (hC.k.1.2 t0 _ ht0).2
  rw [hcn] at k2 k3
  have hcomp : comp = (mj_D E).1 ci := Option.some.inj (k3.symm.trans hcls.1)
  subst hcomp
  obtain ⟨kC, hkC, -⟩ := id hcls.2
  refine W.aast hC.x hC.b hat (fun q h => by cases h) (fun h => by cases h) k1 k2 rfl hkC ⟨h0, by show _ < (arrV _ _ _).slots.size; rw [arrV_size]; exact hlt2⟩ g1 (fun q h => by rw [g3] at h; cases h) (by rw [g2]; exact hkC) (by rw [g2]; exact va_assign hcls) rfl rfl hdg fun H1 e1 e2 e3 => ?_
  refine kk E p l e R s m args below meth c A Z hC H1 _ ls cells slots (hJ.w (fun q hq => mj_d_sr hq) (Or.inr (Or.inr (Or.inr ⟨ci, _, ho⟩))) e2 e3 (hR.sr (Nat.le_refl _) hlt (Or.inl ⟨_, ho⟩) hci ?_ (fun q _ hq => e3 (mj_B E + q) (fun z => hq (Nat.add_left_cancel z))))) hl
  rw [e1, vp_cell_q, vp_cell_q, arrV_store]
  congr 2
  funext q
  by_cases hq : q = i.toNatClampNeg
  · subst hq
    simp [updV, va_up, va_rf]
  · simp [updV, va_up, hq]
theorem mj_r_alenI {a N : Nat} {f : Nat → Int32} {v : Int32} (hd : mj_find (mj_tab M) pc = some (.arraylength, 1, x, n)) (ho : h.2.1 a = some (N, f)) (hv : Int32.ofNat N = v) (kk : mj_W M n lv (.int v :: r) h g nx kc ks Q) : mj_W M pc lv (.ref a :: r) h g nx kc ks Q := by
  intro E p l e R s m args below meth c A Z hC H locs ls cells slots hJ hl
  obtain ⟨hdg, hn, hxb⟩ := hC.dec hd
  subst hn
  obtain ⟨kd, h1, h2, h3, h4⟩ := hJ.1.1
  obtain ⟨-, -, hat⟩ := h2 a N f ho
  exact va_alen (D := mj_D E) hC.x hC.b hC.k.1 (mj_one (q := (mj_B E + a, .inl (mj_A E 0, N, .inl f))) hat) 0 0 rfl rfl hv hdg (kk E p l e R s m args below meth c A Z hC H locs ls cells slots hJ hl)
end MJH
