/-! what holds of claims and disputes -/
theorem cnt_ag {p q : Nat → Bool} {n : Nat} (h : ∀ i, i < n → p i = q i) : cnt p n = cnt q n := by
  induction n with
  | zero => rfl
  | succ n ih =>
    unfold cnt
    rw [ih (fun i hi => h i (by omega)), h n (by omega)]
theorem cnt_flip {p q : Nat → Bool} {n d : Nat} (hd : d < n) (hp : p d = true) (hq : q d = false) (h : ∀ i, i < n → i ≠ d → q i = p i) : cnt p n = cnt q n + 1 := by
  induction n with
  | zero => omega
  | succ n ih =>
    unfold cnt
    by_cases e : n = d
    · subst e
      rw [hp, hq, cnt_ag (fun i hi => (h i (by omega) (by omega)).symm)]
      rfl
    · rw [ih (by omega) (fun i hi he => h i (by omega) he), h n (by omega) e]
      omega
theorem cnt_z {p : Nat → Bool} {n : Nat} (h : ∀ i, i < n → p i = false) : cnt p n = 0 := by
  induction n with
  | zero => rfl
  | succ n ih =>
    unfold cnt
    rw [ih (fun i hi => h i (by omega)), h n (by omega)]
    rfl
theorem cnt_pos {p : Nat → Bool} {n i : Nat} (hi : i < n) (h : p i = true) : 0 < cnt p n := by
  induction n with
  | zero => omega
  | succ n ih =>
    unfold cnt
    by_cases e : i = n
    · subst e
      rw [h]
      exact Nat.lt_of_lt_of_le Nat.zero_lt_one (Nat.le_add_left _ _)
    · have := ih (by omega)
      omega
def nOp (S : rf_S) (nc : Nat) : Nat := cnt (fun c => decide (S.1 19 c = 0)) nc
def pA (S : rf_S) (nc nd : Nat) (od : Nat → Int32) (oc : Int32) : Prop := wf_D S nc nd ∧ (∀ c, c < nc → od c = nI (sp_open S (nI c) nd)) ∧ oc = nI (nOp S nc) ∧ ∀ d, d < nd → S.1 24 d = 0 → S.1 19 (S.1 23 d).toNatClampNeg = 0
/-- clocks below 30, but perhaps of one -/
def pK (S : rf_S) (nd x : Nat) : Prop := ∀ d, d < nd → d ≠ x → S.1 24 d = 0 → ∃ i j : Nat, i < 30 ∧ j < 30 ∧ S.1 31 d = nI i ∧ S.1 32 d = nI j
def pT (S : rf_S) (nd : Nat) (to : Nat → Int32) (md : Nat → Int64) : Prop := ∀ d, d < nd → S.1 30 d = (if S.1 26 d = S.1 25 d + 1 then 2 else if to d = 0 then 0 else 1) ∧ S.2 29 d = (if to d = 0 then 0 else md d)
/-- times -/
def pU (S : rf_S) (nc T : Nat) : Prop := ∃ t : Nat, S.1 13 0 = nI t ∧ t ≤ T ∧ ∀ c, c < nc → S.1 19 c = 0 → ∃ u : Nat, u ≤ t ∧ S.1 20 c = nI u
section PA
variable {S : rf_S} {nc nd : Nat} {od : Nat → Int32} {oc : Int32}
theorem isO_t {S : rf_S} {c : Int32} {d : Nat} (h1 : S.1 23 d = c) (h2 : S.1 24 d = 0) : sp_isO S c d = true := decide_eq_true ⟨h1, h2⟩
theorem isO_f {S : rf_S} {c : Int32} {d : Nat} (h : ¬ (S.1 23 d = c ∧ S.1 24 d = 0)) : sp_isO S c d = false := decide_eq_false h
theorem isO_e {S S' : rf_S} {c : Int32} {d : Nat} (h : (S'.1 23 d = c ∧ S'.1 24 d = 0) ↔ (S.1 23 d = c ∧ S.1 24 d = 0)) : sp_isO S' c d = sp_isO S c d := decide_eq_decide.mpr h
theorem pA.cw (P : pA S nc nd od oc) {d c : Nat} (hd : d < nd) (ho : S.1 24 d = 0) (hc : (S.1 23 d).toNatClampNeg = c) : pA (sp_cw S d) nc nd (upd od c (od c - 1)) oc := by
  obtain ⟨hw, h1, h2, h3⟩ := P
  obtain ⟨c', k1, k2⟩ := hw.2.2.2.2.1 d hd
  have h40 := hw.2.2.2.1
  have : c' = c := by rw [← hc, k2, nI_clamp (by omega)]
  subst this
  have e24 : (sp_cw S d).1 24 = upd (S.1 24) d 1 := rfl
  have e23 : (sp_cw S d).1 23 = S.1 23 := rfl
  refine ⟨hw.kp (sp_cw_kp S d), fun j hj => ?_, h2, fun i hi h0 => ?_⟩
  · by_cases e : j = c'
    · subst e
      rw [pk_us, h1 _ hj]
      have : sp_open S (nI j) nd = sp_open (sp_cw S d) (nI j) nd + 1 := cnt_flip hd (isO_t k2 ho) (isO_f (fun q => absurd q.2 (by rw [e24, pk_us]; decide))) (fun i hi he => isO_e (by rw [e24, e23, pk_un he]))
      rw [this, nI_pred]
    · rw [pk_un e, h1 j hj]
      refine congrArg nI (cnt_ag (fun i hi => ?_)).symm
      refine isO_e ?_
      rw [e24, e23]
      by_cases ei : i = d
      · subst ei
        rw [k2]
        have hne : ¬ nI c' = nI j := fun q => e ((nI_eq (by omega) (by omega)).mp q).symm
        exact ⟨fun q => absurd q.1 hne, fun q => absurd q.1 hne⟩
      · rw [pk_un ei]
  · rw [e24] at h0
    by_cases ei : i = d
    · subst ei
      rw [pk_us] at h0
      exact absurd h0 (by decide)
    · rw [pk_un ei] at h0
      exact h3 i hi h0
theorem drop_24 (c : Int32) (S : rf_S) (n i : Nat) : (sp_drop c S n).1 24 i = if i < n ∧ S.1 23 i = c ∧ S.1 24 i = 0 then 3 else S.1 24 i := by
  induction n with
  | zero => exact (if_neg (fun q => by omega)).symm
  | succ n ih =>
    unfold sp_drop
    have e23 : (sp_drop c S n).1 23 = S.1 23 := (sp_drop_kp c S n).1 23 (by decide)
    have en : (sp_drop c S n).1 24 n = 0 ↔ S.1 24 n = 0 := by
      have : (sp_drop c S n).1 24 n = S.1 24 n := by
        clear ih
        have : ∀ m, m ≤ n → (sp_drop c S m).1 24 n = S.1 24 n := by
          intro m
          induction m with
          | zero => intro _; rfl
          | succ m ihm =>
            intro hm
            unfold sp_drop
            split
            · show upd ((sp_drop c S m).1 24) m 3 n = _
              rw [pk_un (by omega)]
              exact ihm (by omega)
            · exact ihm (by omega)
        exact this n (Nat.le_refl _)
      rw [this]
    by_cases hc : (sp_drop c S n).1 23 n = c ∧ (sp_drop c S n).1 24 n = 0
    · rw [if_pos hc]
      rw [e23, en] at hc
      show upd ((sp_drop c S n).1 24) n 3 i = _
      by_cases e : i = n
      · subst e
        rw [pk_us, if_pos ⟨by omega, hc⟩]
      · rw [pk_un e, ih]
        by_cases hi : i < n
        · by_cases hq : S.1 23 i = c ∧ S.1 24 i = 0
          · rw [if_pos ⟨hi, hq⟩, if_pos ⟨by omega, hq⟩]
          · rw [if_neg (fun q => hq q.2), if_neg (fun q => hq q.2)]
        · rw [if_neg (fun q => hi q.1), if_neg (fun q => by omega)]
    · rw [if_neg hc, ih]
      rw [e23, en] at hc
      by_cases e : i = n
      · subst e
        rw [if_neg (fun q => by omega), if_neg (fun q => hc q.2)]
      · by_cases hi : i < n
        · by_cases hq : S.1 23 i = c ∧ S.1 24 i = 0
          · rw [if_pos ⟨hi, hq⟩, if_pos ⟨by omega, hq⟩]
          · rw [if_neg (fun q => hq q.2), if_neg (fun q => hq q.2)]
        · rw [if_neg (fun q => hi q.1), if_neg (fun q => by omega)]
theorem dw_24 {S : rf_S} {d nd i : Nat} (hi : i < nd) : (sp_dw S d nd).1 24 i = 0 ↔ i ≠ d ∧ S.1 24 i = 0 ∧ ¬ S.1 23 i = S.1 23 d := by
  unfold sp_dw
  rw [drop_24]
  show (if i < nd ∧ S.1 23 i = S.1 23 d ∧ upd (S.1 24) d 2 i = 0 then 3 else upd (S.1 24) d 2 i) = 0 ↔ _
  by_cases e : i = d
  · subst e
    rw [pk_us, if_neg (fun q => absurd q.2.2 (by decide))]
    exact ⟨fun q => absurd q (by decide), fun q => absurd rfl q.1⟩
  · rw [pk_un e]
    by_cases hq : S.1 23 i = S.1 23 d ∧ S.1 24 i = 0
    · rw [if_pos ⟨hi, hq⟩]
      exact ⟨fun q => absurd q (by decide), fun q => absurd hq.1 q.2.2⟩
    · rw [if_neg (fun q => hq q.2)]
      exact ⟨fun q => ⟨e, q, fun z => hq ⟨z, q⟩⟩, fun q => q.2.1⟩
theorem pA.dw (P : pA S nc nd od oc) {d c : Nat} (hd : d < nd) (ho : S.1 24 d = 0) (hc : (S.1 23 d).toNatClampNeg = c) : pA (sp_dw S d nd) nc nd (upd od c 0) (oc - 1) := by
  obtain ⟨hw, h1, h2, h3⟩ := P
  obtain ⟨c', k1, k2⟩ := hw.2.2.2.2.1 d hd
  have h40 := hw.2.2.2.1
  have : c' = c := by rw [← hc, k2, nI_clamp (by omega)]
  subst this
  have e23 : (sp_dw S d nd).1 23 = S.1 23 := (sp_dw_kp S d nd).1 23 (by decide)
  have e19 : (sp_dw S d nd).1 19 = upd (S.1 19) c' 2 := by
    show (sp_drop (S.1 23 d) (sp_dw0 S d) nd).1 19 = _
    rw [(sp_drop_kp _ _ _).1 19 (by decide)]
    show upd (S.1 19) (S.1 23 d).toNatClampNeg 2 = _
    rw [hc]
  have hop := h3 d hd ho
  rw [hc] at hop
  refine ⟨hw.kp (sp_dw_kp S d nd), fun j hj => ?_, ?_, fun i hi h0 => ?_⟩
  · by_cases e : j = c'
    · subst e
      rw [pk_us]
      have : sp_open (sp_dw S d nd) (nI j) nd = 0 := cnt_z (fun i hi => isO_f (fun q => by
        rw [e23, dw_24 hi] at q
        exact q.2.2.2 (q.1.trans k2.symm)))
      rw [this]
      rfl
    · rw [pk_un e, h1 j hj]
      refine congrArg nI (cnt_ag (fun i hi => ?_)).symm
      refine isO_e ?_
      rw [e23, dw_24 hi, k2]
      have hne : ¬ nI c' = nI j := fun q => e ((nI_eq (by omega) (by omega)).mp q).symm
      constructor
      · exact fun q => ⟨q.1, q.2.2.1⟩
      · intro q
        refine ⟨q.1, fun z => ?_, q.2, fun z => hne (z.symm.trans q.1)⟩
        subst z
        exact hne (k2.symm.trans q.1)
  · have : nOp S nc = nOp (sp_dw S d nd) nc + 1 := cnt_flip k1 (decide_eq_true hop) (decide_eq_false (by rw [e19, pk_us]; decide)) (fun i hi he => by rw [e19, pk_un he])
    rw [h2, this, nI_pred]
  · rw [dw_24 hi] at h0
    rw [e23, e19]
    obtain ⟨ci, m1, m2⟩ := hw.2.2.2.2.1 i hi
    rw [pk_un (fun q => h0.2.2 (by rw [m2, k2]; rw [m2, nI_clamp (by omega)] at q; rw [q]))]
    exact h3 i hi h0.2.1
theorem pK.cw {x d : Nat} (P : pK S nd x) (hx : x = d ∨ x = nd) (hd : d < nd) : pK (sp_cw S d) nd nd := fun i hi _ h0 => by
  have h0 : upd (S.1 24) d 1 i = 0 := h0
  by_cases e : i = d
  · subst e
    rw [pk_us] at h0
    exact absurd h0 (by decide)
  · rw [pk_un e] at h0
    exact P i hi (by omega) h0
theorem pK.dw {x d : Nat} (P : pK S nd x) (hx : x = d ∨ x = nd) (hd : d < nd) : pK (sp_dw S d nd) nd nd := fun i hi _ h0 => by
  rw [dw_24 hi] at h0
  rw [(show (sp_dw S d nd).1 31 = S.1 31 by show (sp_drop _ _ nd).1 31 = _; rw [(sp_drop_kp _ _ _).1 31 (by decide)]; rfl), (show (sp_dw S d nd).1 32 = S.1 32 by show (sp_drop _ _ nd).1 32 = _; rw [(sp_drop_kp _ _ _).1 32 (by decide)]; rfl)]
  exact P i hi (by omega) h0.2.1
theorem pT.kp {S' : rf_S} {to : Nat → Int32} {md : Nat → Int64} (P : pT S nd to md) (k : kp LT_ S S') : pT S' nd to md := fun d hd => by
  rw [k.1 30 (by decide), k.1 26 (by decide), k.1 25 (by decide), k.2]
  exact P d hd
theorem pU.cw {T d : Nat} (P : pU S nc T) (hw : wf_D S nc nd) (hd : d < nd) : pU (sp_cw S d) nc T := by
  obtain ⟨t, h1, h2, h3⟩ := P
  refine ⟨t, h1, h2, fun c hc h0 => ?_⟩
  show ∃ u : Nat, u ≤ t ∧ upd (S.1 20) (S.1 23 d).toNatClampNeg (S.1 13 0) c = nI u
  by_cases e : c = (S.1 23 d).toNatClampNeg
  · rw [← e, pk_us]
    exact ⟨t, Nat.le_refl _, h1⟩
  · rw [pk_un e]
    exact h3 c hc h0
theorem pU.dw {T d : Nat} (P : pU S nc T) (hw : wf_D S nc nd) (hd : d < nd) : pU (sp_dw S d nd) nc T := by
  obtain ⟨t, h1, h2, h3⟩ := P
  have e13 : (sp_dw S d nd).1 13 = S.1 13 := by show (sp_drop _ _ nd).1 13 = _; rw [(sp_drop_kp _ _ _).1 13 (by decide)]; rfl
  have e20 : (sp_dw S d nd).1 20 = S.1 20 := by show (sp_drop _ _ nd).1 20 = _; rw [(sp_drop_kp _ _ _).1 20 (by decide)]; rfl
  have e19 : (sp_dw S d nd).1 19 = upd (S.1 19) (S.1 23 d).toNatClampNeg 2 := by
    show (sp_drop (S.1 23 d) (sp_dw0 S d) nd).1 19 = _
    rw [(sp_drop_kp _ _ _).1 19 (by decide)]
    rfl
  refine ⟨t, by rw [e13]; exact h1, h2, fun c hc h0 => ?_⟩
  rw [e20]
  rw [e19] at h0
  by_cases e : c = (S.1 23 d).toNatClampNeg
  · rw [← e, pk_us] at h0
    exact absurd h0 (by decide)
  · rw [pk_un e] at h0
    exact h3 c hc h0
end PA
/-- all of it, between calls and between disputes -/
def pAll (S : rf_S) (nc nd T : Nat) (od : Nat → Int32) (oc : Int32) (to : Nat → Int32) (md : Nat → Int64) : Prop := pA S nc nd od oc ∧ pK S nd nd ∧ pT S nd to md ∧ pU S nc T
