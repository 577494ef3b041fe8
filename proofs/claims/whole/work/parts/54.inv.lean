/-! THE CLASS AND THE REFERENCE, between calls -/
def invX (h : mj_H) (S : rf_S) (nx T nb dr n nc nd : Nat) : Prop := 52 ≤ nx ∧ iB h S nx nb dr ∧ wf_O S ∧ iM h ∧ iPa h S n ∧ iC h S nx nc nd T ∧ p4 nb S nc nd
def inv (h : mj_H) (S : rf_S) (nx T : Nat) : Prop := ∃ nb dr n nc nd, invX h S nx T nb dr n nc nd
def agB (S S' : rf_S) : Prop := S'.1 0 = S.1 0 ∧ S'.1 1 = S.1 1 ∧ S'.1 2 = S.1 2 ∧ S'.1 3 = S.1 3 ∧ S'.1 4 = S.1 4 ∧ S'.1 5 = S.1 5 ∧ S'.1 6 = S.1 6 ∧ S'.1 7 = S.1 7 ∧ S'.1 8 = S.1 8
def agP (S S' : rf_S) : Prop := S'.1 34 = S.1 34 ∧ S'.1 36 = S.1 36 ∧ S'.1 37 = S.1 37 ∧ S'.1 38 = S.1 38 ∧ S'.2 35 = S.2 35 ∧ S'.2 39 = S.2 39
def agC (S S' : rf_S) : Prop := S'.1 13 = S.1 13 ∧ S'.1 14 = S.1 14 ∧ S'.1 15 = S.1 15 ∧ S'.1 16 = S.1 16 ∧ S'.1 17 = S.1 17 ∧ S'.1 19 = S.1 19 ∧ S'.1 20 = S.1 20 ∧ S'.1 21 = S.1 21 ∧ S'.1 22 = S.1 22 ∧ S'.1 23 = S.1 23 ∧ S'.1 24 = S.1 24 ∧ S'.1 25 = S.1 25 ∧ S'.1 26 = S.1 26 ∧ S'.1 30 = S.1 30 ∧ S'.1 31 = S.1 31 ∧ S'.1 32 = S.1 32 ∧ S'.1 33 = S.1 33 ∧ S'.2 18 = S.2 18 ∧ S'.2 27 = S.2 27 ∧ S'.2 28 = S.2 28 ∧ S'.2 29 = S.2 29
theorem agB.rf (S : rf_S) : agB S S := ⟨rfl, rfl, rfl, rfl, rfl, rfl, rfl, rfl, rfl⟩
theorem agP.rf (S : rf_S) : agP S S := ⟨rfl, rfl, rfl, rfl, rfl, rfl⟩
theorem agC.rf (S : rf_S) : agC S S := ⟨rfl, rfl, rfl, rfl, rfl, rfl, rfl, rfl, rfl, rfl, rfl, rfl, rfl, rfl, rfl, rfl, rfl, rfl, rfl, rfl, rfl⟩
theorem agB.kp {S S' : rf_S} {L : List Nat} (k : kp L S S') (h : ∀ q ∈ L, 9 ≤ q) : agB S S' := by
  have g : ∀ q, q < 9 → S'.1 q = S.1 q := fun q hq => k.1 q (fun z => by have := h q z; omega)
  exact ⟨g 0 (by omega), g 1 (by omega), g 2 (by omega), g 3 (by omega), g 4 (by omega), g 5 (by omega), g 6 (by omega), g 7 (by omega), g 8 (by omega)⟩
theorem agP.kp {S S' : rf_S} {L : List Nat} (k : kp L S S') (h : ∀ q ∈ L, q < 34) : agP S S' := by
  have g : ∀ q, 34 ≤ q → S'.1 q = S.1 q := fun q hq => k.1 q (fun z => by have := h q z; omega)
  exact ⟨g 34 (by omega), g 36 (by omega), g 37 (by omega), g 38 (by omega), by rw [k.2], by rw [k.2]⟩
theorem agB.tr {S T U : rf_S} (a : agB S T) (b : agB T U) : agB S U := by
  obtain ⟨a0, a1, a2, a3, a4, a5, a6, a7, a8⟩ := a
  obtain ⟨b0, b1, b2, b3, b4, b5, b6, b7, b8⟩ := b
  exact ⟨b0.trans a0, b1.trans a1, b2.trans a2, b3.trans a3, b4.trans a4, b5.trans a5, b6.trans a6, b7.trans a7, b8.trans a8⟩
theorem agP.tr {S T U : rf_S} (a : agP S T) (b : agP T U) : agP S U := by
  obtain ⟨a0, a1, a2, a3, a4, a5⟩ := a
  obtain ⟨b0, b1, b2, b3, b4, b5⟩ := b
  exact ⟨b0.trans a0, b1.trans a1, b2.trans a2, b3.trans a3, b4.trans a4, b5.trans a5⟩
theorem wf_O.ag {S S' : rf_S} (w : wf_O S) (a : agB S S') : wf_O S' := by
  obtain ⟨a0, a1, a2, a3, a4, a5, a6, a7, a8⟩ := a
  unfold wf_O wf_P at *
  rw [a0, a1, a2, a6, a8]
  exact w
theorem iM.fr {h h' : mj_H} (i : iM h) (h1 : h'.1 5 = h.1 5) (h2 : h'.2.1 5 = h.2.1 5) (h3 : h'.2.2.1 6 = h.2.2.1 6) : iM h' := by
  unfold iM at *
  rw [h1, h2, h3]
  exact i
theorem iPa.fr {h h' : mj_H} {S S' : rf_S} {n : Nat} (i : iPa h S n) (h6 : h'.1 6 = h.1 6) (h7 : h'.1 7 = h.1 7) (hr : h'.2.2.2 6 = h.2.2.2 6) (hl : ∀ i, i < 4 → h'.2.2.1 (10 + 2 * i) = h.2.2.1 (10 + 2 * i)) (a : agP S S') : iPa h' S' n := by
  obtain ⟨a0, a1, a2, a3, a4, a5⟩ := a
  obtain ⟨i1, i2, i3, i4⟩ := i
  unfold iPa wf_Q
  rw [a0, a1, a2, a3, a4, a5, h6, h7, hr]
  exact ⟨i1, i2, i3, fun j hj => by rw [hl j hj]; exact i4 j hj⟩
theorem iB.fr {h h' : mj_H} {S S' : rf_S} {nx nx' nb dr : Nat} (i : iB h S nx nb dr) (hn : nx ≤ nx') (h9 : h'.1 9 = h.1 9) (h0 : h'.1 0 = h.1 0) (h8 : h'.1 8 = h.1 8) (h4 : h'.1 4 = h.1 4) (r0 : h'.2.2.2 0 = h.2.2.2 0) (r4 : h'.2.2.2 4 = h.2.2.2 4) (hf : ∀ q, 52 ≤ q → q < nx → h'.2.1 q = h.2.1 q) (a : agB S S') : iB h' S' nx' nb dr := by
  obtain ⟨a0, a1, a2, a3, a4, a5, a6, a7, a8⟩ := a
  obtain ⟨b8, hnb, hdr, pa, la, fb, ht, hfb, hd, hbs⟩ := i
  refine ⟨b8, by rw [a5]; exact hnb, by rw [a4]; exact hdr, pa, la, fb, by rw [h9]; exact ht, by rw [r0]; exact hfb, ?_, fun b hb => ?_⟩
  · refine (hd.fr hn (by rw [h8]) (by rw [r4]) (fun i _ => by rw [h4])).ext ?_ (fun j hj => ?_)
    · show S'.1 4 0 = S.1 4 0
      rw [a4]
    · show S'.1 0 _ = S.1 0 _ ∧ S'.1 1 _ = S.1 1 _ ∧ S'.1 2 _ = S.1 2 _ ∧ S'.1 3 _ = S.1 3 _
      rw [a0, a1, a2, a3]
      exact ⟨rfl, rfl, rfl, rfl⟩
  · refine (hbs b hb).fr hn (fun i _ => by rw [h0]) hf (fun i _ _ => by rw [h8]) (fun i _ _ => by rw [r4]) (fun i _ => by rw [h4]) (by rw [a8]) (fun i _ => by rw [a7]) (by rw [a6]) (fun q j hq hj => ?_) (fun _ _ z => z) (fun _ _ z => z)
    match q, hq with
    | 0, _ => rw [a0]
    | 1, _ => rw [a1]
    | 2, _ => rw [a2]
    | 3, _ => rw [a3]
theorem p4.fr {nb nb' nc nd : Nat} {S S' : rf_S} (p : p4 nb S nc nd) (hn : nb ≤ nb') (a : agC S S') : p4 nb' S' nc nd := by
  obtain ⟨c13, c14, c15, c16, c17, c19, c20, c21, c22, c23, c24, -⟩ := a
  refine ⟨fun c hc => ?_, fun c hc => ?_⟩
  · have e : sp_isO S' (nI c) = sp_isO S (nI c) := by funext d; unfold sp_isO; rw [c23, c24]
    unfold sp_open
    rw [e]
    exact p.1 c hc
  · rw [c17]
    obtain ⟨b, b1, b2⟩ := p.2 c hc
    exact ⟨b, by omega, b2⟩
theorem iC.fr {h h' : mj_H} {S S' : rf_S} {nx nx' nc nd T T' : Nat} (i : iC h S nx nc nd T) (hn : nx ≤ nx') (hT : T ≤ T') (h1 : h'.1 1 = h.1 1) (h2 : h'.1 2 = h.1 2) (h3 : h'.1 3 = h.1 3) (h18 : h'.2.1 18 = h.2.1 18) (r1 : h'.2.2.2 1 = h.2.2.2 1) (r3 : h'.2.2.2 3 = h.2.2.2 3) (a : agC S S') : iC h' S' nx' nc nd T' := by
  obtain ⟨c13, c14, c15, c16, c17, c19, c20, c21, c22, c23, c24, c25, c26, c30, c31, c32, c33, d18, d27, d28, d29⟩ := a
  obtain ⟨od, to, md, oc, fc, fd, R, P⟩ := i
  refine ⟨od, to, md, oc, fc, fd, ?_, ?_⟩
  · have eC : Cof S' od = Cof S od := by funext c; unfold Cof; rw [c16, c17, c19, c20, d18]
    have eD : Dof S' fc to md = Dof S fc to md := by funext d; unfold Dof; rw [c22, c23, c24, c25, c26, c31, c32, c33, d27, d28]
    show cR h' (Cof S' od) (Dof S' fc to md) (S'.1 14) oc (S'.1 13 0) fc fd nx' nc nd
    rw [eC, eD, c14, c13]
    obtain ⟨q1, q2, q3, q4, q5, q6, q7, q8⟩ := R
    refine ⟨by rw [h2]; exact q1, by rw [h18]; exact q2, by rw [r1]; exact q3, by rw [r3]; exact q4, fun c hc => ?_, fun d hd => ?_, q7, q8⟩
    · obtain ⟨b, b1, b2, b3⟩ := q5 c hc
      exact ⟨b, by omega, b2, by rw [h1]; exact b3⟩
    · obtain ⟨b, b1, b2, b3⟩ := q6 d hd
      exact ⟨b, by omega, b2, by rw [h3]; exact b3⟩
  · have eO : ∀ c, sp_isO S' c = sp_isO S c := fun c => by funext d; unfold sp_isO; rw [c23, c24]
    refine P.mono hT |> fun P => ?_
    unfold pAll pA pK pT pU nOp sp_open wf_D at *
    simp only [eO, c13, c15, c16, c19, c20, c21, c22, c23, c24, c25, c26, c30, c31, c32, d29]
    exact P
theorem inv.ag {h : mj_H} {S S' : rf_S} {nx T : Nat} (i : inv h S nx T) (b : agB S S') (p : agP S S') (c : agC S S') : inv h S' nx T := by
  obtain ⟨nb, dr, n, nc, nd, i1, i2, i3, i4, i5, i6, i7⟩ := i
  exact ⟨nb, dr, n, nc, nd, i1, i2.fr (Nat.le_refl _) rfl rfl rfl rfl rfl rfl (fun _ _ _ => rfl) b, i3.ag b, i4, i5.fr rfl rfl rfl (fun _ _ => rfl) p, i6.fr (Nat.le_refl _) (Nat.le_refl _) rfl rfl rfl rfl rfl rfl c, i7.fr (Nat.le_refl _) c⟩
theorem inv.sX {h : mj_H} {S : rf_S} {nx T : Nat} (i : inv h S nx T) (m : mS) (nd : Nat → Int64) : inv h (sX S m nd) nx T := i.ag ⟨rfl, rfl, rfl, rfl, rfl, rfl, rfl, rfl, rfl⟩ ⟨rfl, rfl, rfl, rfl, rfl, rfl⟩ ⟨rfl, rfl, rfl, rfl, rfl, rfl, rfl, rfl, rfl, rfl, rfl, rfl, rfl, rfl, rfl, rfl, rfl, rfl, rfl, rfl, rfl⟩
theorem inv.sC9 {h : mj_H} {S : rf_S} {nx T : Nat} (i : inv h S nx T) (f : Nat → Int32) : inv h (sC S 9 f) nx T := i.ag ⟨rfl, rfl, rfl, rfl, rfl, rfl, rfl, rfl, rfl⟩ ⟨rfl, rfl, rfl, rfl, rfl, rfl⟩ ⟨rfl, rfl, rfl, rfl, rfl, rfl, rfl, rfl, rfl, rfl, rfl, rfl, rfl, rfl, rfl, rfl, rfl, rfl, rfl, rfl, rfl⟩
theorem inv.mono {h : mj_H} {S : rf_S} {nx T T' : Nat} (i : inv h S nx T) (hT : T ≤ T') : inv h S nx T' := by
  obtain ⟨nb, dr, n, nc, nd, i1, i2, i3, i4, i5, i6, i7⟩ := i
  exact ⟨nb, dr, n, nc, nd, i1, i2, i3, i4, i5, i6.mono hT, i7⟩
section IVX
variable {h h' : mj_H} {S S' : rf_S} {nx nx' T T' nb dr n nc nd : Nat} (I : invX h S nx T nb dr n nc nd)
/-- the machine moved -/
theorem invX.x (I : invX h S nx T nb dr n nc nd) (m : mS) (ndf : Nat → Int64) : invX (cX h m ndf) S nx T nb dr n nc nd := by
  obtain ⟨i1, i2, i3, i4, i5, i6, i7⟩ := I
  exact ⟨i1, i2.fr (Nat.le_refl _) rfl rfl rfl rfl rfl rfl (fun q hq _ => si_ne (h := mj_so h 5 4 (oMch m)) (a := 5) (b := q) (n := 16) (f := m.1) (by omega)) (agB.rf S), i3, iM.x h m ndf, i5.x m ndf, i6.x m ndf, i7⟩
/-- the paper moved -/
theorem invX.p (I : invX h S nx T nb dr n nc nd) (f : fP h h') (hp : ∃ n', iPa h' S' n') (b : agB S S') (c : agC S S') : inv h' S' nx T := by
  obtain ⟨i1, i2, i3, i4, i5, i6, i7⟩ := I
  obtain ⟨n', hp⟩ := hp
  have g := f.1
  have r := f.2.2.2
  exact ⟨nb, dr, n', nc, nd, i1, i2.fr (Nat.le_refl _) (g 9 (by decide) (by decide)) (g 0 (by decide) (by decide)) (g 8 (by decide) (by decide)) (g 4 (by decide) (by decide)) (by rw [r]) (by rw [r]) (fun q _ _ => by rw [f.2.1]) b, i3.ag b, i4.fr (g 5 (by decide) (by decide)) (by rw [f.2.1]) f.2.2.1, hp, i6.fr (Nat.le_refl _) (Nat.le_refl _) (g 1 (by decide) (by decide)) (g 2 (by decide) (by decide)) (g 3 (by decide) (by decide)) (by rw [f.2.1]) (by rw [r]) (by rw [r]) c, i7.fr (Nat.le_refl _) c⟩
/-- the court moved -/
theorem invX.c {nc' nd' : Nat} (I : invX h S nx T nb dr n nc nd) (hn : nx ≤ nx') (f : fC h h') (hc : iC h' S' nx' nc' nd' T') (hp4 : p4 nb S' nc' nd') (b : agB S S') (p : agP S S') : inv h' S' nx' T' := by
  obtain ⟨i1, i2, i3, i4, i5, i6, i7⟩ := I
  have g := f.1
  have r := f.2.2.2
  exact ⟨nb, dr, n, nc', nd', by omega, i2.fr hn (g 9 (by decide) (by decide) (by decide)) (g 0 (by decide) (by decide) (by decide)) (g 8 (by decide) (by decide) (by decide)) (g 4 (by decide) (by decide) (by decide)) (r 0 (by decide) (by decide)) (r 4 (by decide) (by decide)) (fun q hq _ => f.2.1 q (by omega)) b, i3.ag b, i4.fr (g 5 (by decide) (by decide) (by decide)) (f.2.1 5 (by decide)) (by rw [f.2.2.1]), i5.fr (g 6 (by decide) (by decide) (by decide)) (g 7 (by decide) (by decide) (by decide)) (r 6 (by decide) (by decide)) (fun i _ => by rw [f.2.2.1]) p, hc, hp4⟩
/-- programs moved -/
theorem invX.b {nb' dr' : Nat} (I : invX h S nx T nb dr n nc nd) (hn : nx ≤ nx') (hb : nb ≤ nb') (f : fB h h' nx) (w : wf_O S') (hi : iB h' S' nx' nb' dr') (p : agP S S') (c : agC S S') : inv h' S' nx' T := by
  obtain ⟨i1, i2, i3, i4, i5, i6, i7⟩ := I
  have g := f.1
  have r := f.2.2.2
  exact ⟨nb', dr', n, nc, nd, by omega, hi, w, i4.fr (g 5 (by decide) (by decide) (by decide) (by decide)) (f.2.1 5 (by omega)) (by rw [f.2.2.1]), i5.fr (g 6 (by decide) (by decide) (by decide) (by decide)) (g 7 (by decide) (by decide) (by decide) (by decide)) (r 6 (by decide) (by decide)) (fun i _ => by rw [f.2.2.1]) p, i6.fr hn (Nat.le_refl _) (g 1 (by decide) (by decide) (by decide) (by decide)) (g 2 (by decide) (by decide) (by decide) (by decide)) (g 3 (by decide) (by decide) (by decide) (by decide)) (f.2.1 18 (by omega)) (r 1 (by decide) (by decide)) (r 3 (by decide) (by decide)) c, i7.fr hb c⟩
end IVX
