/-! THE MACHINE of the document, pure; and states that differ in a few fields -/
abbrev mP : Type := (Nat → Int32) × (Nat → Int32) × (Nat → Int32) × (Nat → Int32) × Int32
abbrev mS : Type := (Nat → Int32) × Int32 × Int32
def m_va (P : mP) (f : Nat → Int32) (k : Nat) : Int32 := f (P.2.1 k).toNatClampNeg
def m_vb (P : mP) (f : Nat → Int32) (k : Nat) : Int32 := f (P.2.2.1 k).toNatClampNeg
def m_wr (P : mP) (f : Nat → Int32) (k : Nat) : Int32 := if P.1 k = 9 then -1 else if P.1 k = 8 then m_va P f k &&& 15 else P.2.1 k
def m_val (P : mP) (f : Nat → Int32) (k : Nat) : Int32 := sp_val (P.1 k) (m_va P f k) (m_vb P f k) (P.2.2.2.1 k) (f (m_vb P f k &&& 15).toNatClampNeg)
def m_bh (P : mP) (f : Nat → Int32) (k : Nat) (p : Int32) : Int32 := if P.1 k = 9 ∧ ¬ m_va P f k = 0 then P.2.2.2.1 k else p + 1
def m_cell (P : mP) (f : Nat → Int32) (k : Nat) : Nat → Int32 := if 0 ≤ m_wr P f k then upd f (m_wr P f k).toNatClampNeg (m_val P f k) else f
def m_step (P : mP) (m : mS) : mS := if isN m.2.1 P.2.2.2.2 then (m_cell P m.1 m.2.1.toNatClampNeg, m_bh P m.1 m.2.1.toNatClampNeg m.2.1, m.2.2 + 1) else m
def m_run (P : mP) (m : mS) : Nat → mS
  | 0 => m
  | n + 1 => m_step P (m_run P m n)
theorem m_run_1 (P : mP) (m : mS) (n : Nat) : m_run P (m_step P m) n = m_run P m (n + 1) := by
  induction n with
  | zero => rfl
  | succ n ih => show m_step P (m_run P (m_step P m) n) = m_step P (m_run P m (n + 1)); rw [ih]
def m_ok (P : mP) : Prop := (∀ k, ∃ a, a < 16 ∧ P.2.1 k = nI a) ∧ ∀ k, ∃ b, b < 16 ∧ P.2.2.1 k = nI b
def m_ag (m m' : mS) : Prop := (∀ i, i < 16 → m.1 i = m'.1 i) ∧ m.2.1 = m'.2.1 ∧ m.2.2 = m'.2.2
theorem m_ag.rf (m : mS) : m_ag m m := ⟨fun _ _ => rfl, rfl, rfl⟩
theorem m15_lt (x : Int32) : (x &&& 15).toNatClampNeg < 16 := by
  obtain ⟨k, hk, e⟩ := sp_m15 x
  rw [e, nI_clamp (by omega)]
  exact hk
theorem m_step_ag {P : mP} (hP : m_ok P) {m m' : mS} (h : m_ag m m') : m_ag (m_step P m) (m_step P m') := by
  obtain ⟨f, p, d⟩ := m
  obtain ⟨f', p', d'⟩ := m'
  obtain ⟨h1, h2, h3⟩ := h
  dsimp only at h1 h2 h3
  subst h2; subst h3
  unfold m_step
  dsimp only
  by_cases c : isN p P.2.2.2.2
  · rw [if_pos c, if_pos c]
    generalize p.toNatClampNeg = k
    obtain ⟨a, ha, ha2⟩ := hP.1 k
    obtain ⟨b, hb, hb2⟩ := hP.2 k
    have eA : m_va P f k = m_va P f' k := by unfold m_va; rw [ha2, nI_clamp (by omega)]; exact h1 a ha
    have eB : m_vb P f k = m_vb P f' k := by unfold m_vb; rw [hb2, nI_clamp (by omega)]; exact h1 b hb
    have eW : m_wr P f k = m_wr P f' k := by unfold m_wr; rw [eA]
    have eV : m_val P f k = m_val P f' k := by unfold m_val; rw [eA, eB, h1 _ (m15_lt _)]
    refine ⟨fun i hi => ?_, ?_, rfl⟩
    · dsimp only
      unfold m_cell
      rw [eW]
      by_cases c2 : 0 ≤ m_wr P f' k
      · rw [if_pos c2, if_pos c2, eV]
        unfold upd
        by_cases c3 : i = (m_wr P f' k).toNatClampNeg
        · rw [if_pos c3, if_pos c3]
        · rw [if_neg c3, if_neg c3]; exact h1 i hi
      · rw [if_neg c2, if_neg c2]; exact h1 i hi
    · dsimp only
      unfold m_bh
      rw [eA]
  · rw [if_neg c, if_neg c]
    exact ⟨h1, rfl, rfl⟩
theorem m_run_ag {P : mP} (hP : m_ok P) {m m' : mS} (h : m_ag m m') (n : Nat) : m_ag (m_run P m n) (m_run P m' n) := by
  induction n with
  | zero => exact h
  | succ n ih => exact m_step_ag hP ih
/-- what stands still stays -/
theorem m_run_still {P : mP} {m : mS} (h : ¬ isN m.2.1 P.2.2.2.2) (n : Nat) : m_run P m n = m := by
  induction n with
  | zero => rfl
  | succ n ih => show m_step P (m_run P m n) = m; rw [ih, m_step, if_neg h]
/-- a batch's first state, from four numbers -/
def m_0 (F : Nat → Int32) : mS := (fun i => if i < 4 then F i else 0, 0, 0)
def t_leaf (f : Nat → Int32) (k : Nat) : Int64 := sp_mix (lN k) (f k).toInt64
def t_f (f : Nat → Int32) : Nat → Nat → Int64
  | 0, i => t_leaf f (i - 16)
  | n + 1, i => cond (Nat.ble 16 i) (t_leaf f (i - 16)) (sp_mix (t_f f n (2 * i)) (t_f f n (2 * i + 1)))
/-- a node of the tree -/
def t_n (f : Nat → Int32) (i : Nat) : Int64 := t_f f 4 i
theorem t_n_leaf (f : Nat → Int32) {i : Nat} (h : 16 ≤ i) : t_n f i = t_leaf f (i - 16) := by
  unfold t_n t_f
  rw [Nat.ble_eq.mpr h]
  rfl
theorem t_n_up (f : Nat → Int32) {i : Nat} (h1 : 1 ≤ i) (h2 : i < 16) : t_n f i = sp_mix (t_n f (2 * i)) (t_n f (2 * i + 1)) := by
  match i, h1, h2 with
  | 1, _, _ => rfl
  | 2, _, _ => rfl
  | 3, _, _ => rfl
  | 4, _, _ => rfl
  | 5, _, _ => rfl
  | 6, _, _ => rfl
  | 7, _, _ => rfl
  | 8, _, _ => rfl
  | 9, _, _ => rfl
  | 10, _, _ => rfl
  | 11, _, _ => rfl
  | 12, _, _ => rfl
  | 13, _, _ => rfl
  | 14, _, _ => rfl
  | 15, _, _ => rfl
  | i + 16, _, h => exact absurd h (by omega)
theorem t_f_ag {f f' : Nat → Int32} (h : ∀ i, i < 16 → f i = f' i) : ∀ (n i : Nat), i < 32 → 16 ≤ i * 2 ^ n → t_f f n i = t_f f' n i := by
  intro n
  induction n with
  | zero =>
    intro i h1 h2
    unfold t_f t_leaf
    rw [h (i - 16) (by omega)]
  | succ n ih =>
    intro i h1 h2
    unfold t_f
    cases hb : Nat.ble 16 i with
    | true => dsimp only [cond]; unfold t_leaf; rw [h (i - 16) (by omega)]
    | false =>
      have hlt : ¬ 16 ≤ i := fun q => by rw [Nat.ble_eq.mpr q] at hb; cases hb
      have e : 2 * i * 2 ^ n = i * 2 ^ (n + 1) := by rw [Nat.pow_succ, Nat.mul_comm 2 i, Nat.mul_assoc, Nat.mul_comm 2 (2 ^ n)]
      dsimp only [cond]
      rw [ih (2 * i) (by omega) (by omega), ih (2 * i + 1) (by omega) (by rw [Nat.add_mul]; omega)]
theorem t_n_ag {f f' : Nat → Int32} (h : ∀ i, i < 16 → f i = f' i) {i : Nat} (h1 : 1 ≤ i) (h2 : i < 32) : t_n f i = t_n f' i := t_f_ag h 4 i h2 (by omega)
/-- the digest of a state -/
def m_dig (m : mS) : Int64 := sp_mix (t_n m.1 1) m.2.1.toInt64
theorem m_dig_ag {m m' : mS} (h : m_ag m m') : m_dig m = m_dig m' := by
  unfold m_dig
  rw [t_n_ag h.1 (Nat.le_refl 1) (by omega), h.2.1]
/-- the reference's state with another field -/
def sC (S : rf_S) (p : Nat) (f : Nat → Int32) : rf_S := (fun q => cond (Nat.beq q p) f (S.1 q), S.2)
def sD (S : rf_S) (p : Nat) (f : Nat → Int64) : rf_S := (S.1, fun q => cond (Nat.beq q p) f (S.2 q))
theorem sA_sC (S : rf_S) (p j : Nat) (v : Int32) : sA S p j v = sC S p (upd (S.1 p) j v) := rfl
theorem sL_sD (S : rf_S) (p j : Nat) (v : Int64) : sL S p j v = sD S p (vp_updL (S.2 p) j v) := rfl
theorem sI_sC (S : rf_S) (p : Nat) (v : Int32) : sI S p v = sC S p (fun _ => v) := rfl
theorem sC_sC (S : rf_S) (p : Nat) (f f' : Nat → Int32) : sC (sC S p f) p f' = sC S p f' := by
  unfold sC
  refine Prod.ext ?_ rfl
  funext q
  dsimp only
  cases Nat.beq q p <;> rfl
theorem sD_sD (S : rf_S) (p : Nat) (f f' : Nat → Int64) : sD (sD S p f) p f' = sD S p f' := by
  unfold sD
  refine Prod.ext rfl ?_
  funext q
  dsimp only
  cases Nat.beq q p <;> rfl
theorem sC_self (S : rf_S) (p : Nat) : sC S p (S.1 p) = S := by
  unfold sC
  refine Prod.ext ?_ rfl
  funext q
  dsimp only
  cases h : Nat.beq q p with
  | false => rfl
  | true => rw [Nat.eq_of_beq_eq_true h]; rfl
theorem sD_self (S : rf_S) (p : Nat) : sD S p (S.2 p) = S := by
  unfold sD
  refine Prod.ext rfl ?_
  funext q
  dsimp only
  cases h : Nat.beq q p with
  | false => rfl
  | true => rw [Nat.eq_of_beq_eq_true h]; rfl
theorem sC_comm (S : rf_S) {p p' : Nat} (hp : Nat.beq p p' = false) (f f' : Nat → Int32) : sC (sC S p f) p' f' = sC (sC S p' f') p f := by
  unfold sC
  refine Prod.ext ?_ rfl
  funext q
  dsimp only
  cases h : Nat.beq q p with
  | true =>
    have e : q = p := Nat.eq_of_beq_eq_true h
    subst e
    rw [hp]
    rfl
  | false => rfl
theorem sC_1 (S : rf_S) (p : Nat) (f : Nat → Int32) : (sC S p f).1 p = f := by
  show cond (Nat.beq p p) f (S.1 p) = f
  rw [Nat.beq_refl]
  rfl
theorem sD_1 (S : rf_S) (p : Nat) (f : Nat → Int64) : (sD S p f).2 p = f := by
  show cond (Nat.beq p p) f (S.2 p) = f
  rw [Nat.beq_refl]
  rfl
/-- the reference's scratch: cells, place, steps done -/
def sM (S : rf_S) (m : mS) : rf_S := sC (sC (sC S 9 m.1) 10 (fun _ => m.2.1)) 11 (fun _ => m.2.2)
def sp_m (S : rf_S) : mS := (S.1 9, S.1 10 0, S.1 11 0)
def sp_P (S : rf_S) (b : Nat) : mP := (fun j => S.1 0 (24 * b + j), fun j => S.1 1 (24 * b + j), fun j => S.1 2 (24 * b + j), fun j => S.1 3 (24 * b + j), S.1 6 b)
/-- the heap only shows a number's place 0 -/
theorem rf_num {S : rf_S} {p : Nat} (hp : p ∈ rf_si) {f : Nat → Int32} (h : f 0 = S.1 p 0) : rf_h (sC S p f) = rf_h S := by
  have e : rf_fl (sC S p f) = rf_fl S := by
    simp only [rf_si, List.mem_cons, List.not_mem_nil, or_false] at hp
    rcases hp with rfl | rfl | rfl | rfl | rfl | rfl | rfl | rfl | rfl <;> (show rf_fl _ = rf_fl _; simp only [rf_fl, sC, cond, Nat.beq, h])
  rw [← rf_so (S := sC S p f) (S' := S) (fun a p' N h' => ?_) (fun _ _ _ _ => rfl)]
  · refine Prod.ext ?_ rfl
    funext c q
    show (rf_h (sC S p f)).1 c q = if c = 10 then (if q = 21 then some (rf_fl S) else (rf_h (sC S p f)).1 c q) else (rf_h (sC S p f)).1 c q
    by_cases hc : c = 10
    · subst hc
      by_cases hq : q = 21
      · subst hq
        rw [if_pos rfl, if_pos rfl]
        show some (rf_fl (sC S p f)) = _
        rw [e]
      · rw [if_pos rfl, if_neg hq]
    · rw [if_neg hc]
  · show S.1 p' = cond (Nat.beq p' p) f (S.1 p')
    rw [rf_si_no p hp _ (rf_look_mem h')]
    rfl
theorem rf_sM {S : rf_S} : rf_h (sM S (sp_m S)) = rf_h S := by
  unfold sM sp_m
  dsimp only
  rw [sC_self]
  exact (rf_num (S := sC S 10 (fun _ => S.1 10 0)) (p := 11) (f := fun _ => S.1 11 0) (by decide) rfl).trans (rf_num (f := fun _ => S.1 10 0) (by decide) rfl)
theorem sM_m (S : rf_S) (m : mS) : sp_m (sM S m) = m := rfl
theorem sM_sM (S : rf_S) (m m' : mS) : sM (sM S m) m' = sM S m' := by
  unfold sM
  rw [sC_comm (sC (sC S 9 m.1) 10 (fun _ => m.2.1)) (p := 11) (p' := 9) rfl, sC_comm (sC S 9 m.1) (p := 10) (p' := 9) rfl, sC_sC, sC_comm (sC (sC S 9 m'.1) 10 (fun _ => m.2.1)) (p := 11) (p' := 10) rfl, sC_sC, sC_sC]
theorem sM_P (S : rf_S) (m : mS) (b : Nat) : sp_P (sM S m) b = sp_P S b := rfl
