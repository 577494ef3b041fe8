/-! the class: the court, as the reference's state -/
set_option maxRecDepth 20000 in
set_option maxHeartbeats 4000000 in
theorem K_Court_openDispute_f (h : mj_H) (nx ca : Nat) (nc oc nd t pl nu cp ba cc od qs st : Int32) (dg fd : Int64) (Pu : Nat → Int32) (h2 : h.1 2 17 = some (oCrt nc oc nd t)) (h18 : h.2.1 18 = some (8, Pu)) (h1 : h.1 1 ca = some (oClm nu cp ba dg cc od qs)) (hn : ¬ (isN pl 8 ∧ ¬ Pu pl.toNatClampNeg < 50 ∧ ¬ 80 ≤ nd ∧ cc = 0 ∧ ¬ cp = pl ∧ ¬ 4 ≤ od)) : mj_K me_Court_openDispute [.ref 17, .int pl, .ref ca, .long fd, .int st] h nx 1 12 (fun r h' nx' => r = some (.int (-1)) ∧ h' = h ∧ nx = nx') := by
  refine mj_K.of ok_Court_openDispute ck_Court_openDispute (Nat.le_of_ble_eq_true rfl) ?_
  iterate 3 (refine mj_r_pure rfl rfl ?_)
  refine mj_r_cV0 (ci := 2)  rfl li_Court_68 ck_Court_mayDispute iv_Court_mayDispute (by decide) ((K_Court_mayDispute _ nx ca nc oc nd t pl nu cp ba cc od qs dg Pu h2 h18 h1)) rfl rfl (Nat.le_of_ble_eq_true rfl) rfl h2 ?_
  rintro _ _ _ ⟨rfl, rfl, rfl⟩ _
  rw [bI_f hn]
  refine mj_r_if_ne rfl (fun c1 => absurd c1 (fun q => q rfl)) (fun c1 => ?_)
  refine mj_r_pure rfl rfl ?_
  exact mj_r_iret rfl rfl rfl ⟨rfl, rfl, rfl⟩
set_option maxRecDepth 20000 in
set_option maxHeartbeats 4000000 in
theorem K_Court_openDispute_t (h : mj_H) (nx ca p nd : Nat) (nc oc t nu cp ba cc od qs st : Int32) (dg fg : Int64) (Pu : Nat → Int32) (fd : Nat → Option Nat) (h2 : h.1 2 17 = some (oCrt nc oc (nI nd) t)) (h18 : h.2.1 18 = some (8, Pu)) (h20 : h.2.2.2 3 20 = some (80, fd)) (h1 : h.1 1 ca = some (oClm nu cp ba dg cc od qs)) (hp : p < 8) (hnd : nd < 80) (hn : isN (nI p) 8 ∧ ¬ Pu (nI p).toNatClampNeg < 50 ∧ ¬ 80 ≤ nI nd ∧ cc = 0 ∧ ¬ cp = nI p ∧ ¬ 4 ≤ od) : mj_K me_Court_openDispute [.ref 17, .int (nI p), .ref ca, .long fg, .int st] h nx 1 12 (fun r h' nx' => r = some (.int (nI nd + 1 - 1)) ∧ h' = mj_so (mj_so (mj_sr (mj_so (mj_si h 18 8 (upd Pu p (Pu p + -50))) 3 nx (oDis (nI p) ca 0 0 st fg dg 0 0 0 0 0)) 3 20 80 (va_up fd nd (some nx))) 2 17 (oCrt nc oc (nI nd + 1) t)) 1 ca (oClm nu cp ba dg cc (od + 1) qs) ∧ nx' = nx + 1) := by
  refine mj_K.of ok_Court_openDispute ck_Court_openDispute (Nat.le_of_ble_eq_true rfl) ?_
  iterate 3 (refine mj_r_pure rfl rfl ?_)
  refine mj_r_cV0 (ci := 2)  rfl li_Court_68 ck_Court_mayDispute iv_Court_mayDispute (by decide) ((K_Court_mayDispute _ nx ca nc oc _ t (nI p) nu cp ba cc od qs dg Pu h2 h18 h1)) rfl rfl (Nat.le_of_ble_eq_true rfl) rfl h2 ?_
  rintro _ _ _ ⟨rfl, rfl, rfl⟩ _
  rw [bI_t hn]
  refine mj_r_if_ne rfl (fun c1 => ?_) (fun c1 => absurd c1 (by decide))
  iterate 3 (refine mj_r_pure rfl rfl ?_)
  refine mj_r_cV0 (ci := 2)  rfl li_Court_54 ck_Court_pay iv_Court_pay (by decide) ((K_Court_pay _ nx p nc oc _ t (-50) Pu h2 h18 hp)) rfl rfl (Nat.le_of_ble_eq_true rfl) rfl h2 ?_
  rintro _ _ _ ⟨rfl, rfl, rfl⟩ _
  refine mj_r_pure rfl rfl ?_
  refine mj_r_getf rfl rfl h2 rfl ?_
  refine mj_r_pure rfl rfl ?_
  refine mj_r_getf rfl rfl h2 rfl ?_
  refine mj_r_new (N := 12) rfl rfl rfl rfl ?_
  iterate 5 (refine mj_r_pure rfl rfl ?_)
  refine mj_r_cI0 rfl li_Court_72 ck_Dispute_init iv_Dispute_init rfl rfl (by decide) ((K_Dispute_init (mj_so (mj_si _ 18 8 (upd Pu p (Pu p + -50))) 3 nx _) nx ca (nx + 1) 0 0 0 0 0 0 0 0 .null 0 0 0 so_self nu cp ba cc od qs dg h1 (nI p) st fg)) rfl rfl (Nat.le_of_ble_eq_true rfl) ?_
  rintro _ _ _ ⟨rfl, rfl, rfl⟩ _
  rw [so_so]
  refine cx_aast (ci := _) rfl h20 so_self (by first | rfl | assumption) (by omega) ?_
  iterate 2 (refine mj_r_pure rfl rfl ?_)
  refine mj_r_getf rfl rfl h2 rfl ?_
  iterate 2 (refine mj_r_pure rfl rfl ?_)
  refine mj_r_putf rfl rfl h2 rfl (Or.inl rfl) rfl rfl ?_
  iterate 2 (refine mj_r_pure rfl rfl ?_)
  refine mj_r_getf rfl rfl h1 rfl ?_
  iterate 2 (refine mj_r_pure rfl rfl ?_)
  refine mj_r_putf rfl rfl h1 rfl (Or.inl rfl) rfl rfl ?_
  refine mj_r_pure rfl rfl ?_
  refine mj_r_getf rfl rfl rfl rfl ?_
  iterate 2 (refine mj_r_pure rfl rfl ?_)
  exact mj_r_iret rfl rfl rfl ⟨rfl, rfl, rfl⟩
def ul (f : Nat → List Value) (k : Nat) (x : List Value) : Nat → List Value := fun j => if j = k then x else f j
theorem ul_s {f : Nat → List Value} {k : Nat} {x : List Value} : ul f k x k = x := if_pos rfl
theorem ul_n {f : Nat → List Value} {k j : Nat} {x : List Value} (h : j ≠ k) : ul f k x j = f j := if_neg h
/-- claims C, disputes D, purses, how many are open, the time -/
def cR (h : mj_H) (C D : Nat → List Value) (Pu : Nat → Int32) (oc t : Int32) (fc fd : Nat → Option Nat) (nx nc nd : Nat) : Prop :=
  h.1 2 17 = some (oCrt (nI nc) oc (nI nd) t) ∧ h.2.1 18 = some (8, Pu) ∧ h.2.2.2 1 19 = some (40, fc) ∧ h.2.2.2 3 20 = some (80, fd) ∧ (∀ c, c < nc → ∃ a, a < nx ∧ fc c = some a ∧ h.1 1 a = some (C c)) ∧ (∀ d, d < nd → ∃ a, a < nx ∧ fd d = some a ∧ h.1 3 a = some (D d)) ∧ (∀ i j, i < nc → j < nc → fc i = fc j → i = j) ∧ (∀ i j, i < nd → j < nd → fd i = fd j → i = j)
section CRS
variable {h : mj_H} {C D C' D' : Nat → List Value} {Pu : Nat → Int32} {oc t : Int32} {fc fd : Nat → Option Nat} {nx nc nd : Nat}
theorem cR.ext (R : cR h C D Pu oc t fc fd nx nc nd) (hC : ∀ c, c < nc → C' c = C c) (hD : ∀ d, d < nd → D' d = D d) : cR h C' D' Pu oc t fc fd nx nc nd := by
  obtain ⟨r1, r2, r3, r4, r5, r6, r7, r8⟩ := R
  refine ⟨r1, r2, r3, r4, fun c hc => ?_, fun d hd => ?_, r7, r8⟩
  · rw [hC c hc]; exact r5 c hc
  · rw [hD d hd]; exact r6 d hd
theorem cR.setD (R : cR h C D Pu oc t fc fd nx nc nd) {d a : Nat} (hd : d < nd) (ha : fd d = some a) (x : List Value) : cR (mj_so h 3 a x) C (ul D d x) Pu oc t fc fd nx nc nd := by
  obtain ⟨r1, r2, r3, r4, r5, r6, r7, r8⟩ := R
  refine ⟨r1, r2, r3, r4, r5, fun j hj => ?_, r7, r8⟩
  obtain ⟨b, b1, b2, b3⟩ := r6 j hj
  refine ⟨b, b1, b2, ?_⟩
  by_cases e : j = d
  · subst e
    have : b = a := Option.some.inj (b2.symm.trans ha)
    rw [this, ul_s, so_self]
  · rw [ul_n e, so_ne (fun z => e (r8 j d hj hd (by rw [b2, ha, z])))]
    exact b3
theorem cR.setC (R : cR h C D Pu oc t fc fd nx nc nd) {c a : Nat} (hc : c < nc) (ha : fc c = some a) (x : List Value) : cR (mj_so h 1 a x) (ul C c x) D Pu oc t fc fd nx nc nd := by
  obtain ⟨r1, r2, r3, r4, r5, r6, r7, r8⟩ := R
  refine ⟨r1, r2, r3, r4, fun j hj => ?_, r6, r7, r8⟩
  obtain ⟨b, b1, b2, b3⟩ := r5 j hj
  refine ⟨b, b1, b2, ?_⟩
  by_cases e : j = c
  · subst e
    have : b = a := Option.some.inj (b2.symm.trans ha)
    rw [this, ul_s, so_self]
  · rw [ul_n e, so_ne (fun z => e (r7 j c hj hc (by rw [b2, ha, z])))]
    exact b3
theorem cR.setP (R : cR h C D Pu oc t fc fd nx nc nd) (Pu' : Nat → Int32) : cR (mj_si h 18 8 Pu') C D Pu' oc t fc fd nx nc nd := by
  obtain ⟨r1, r2, r3, r4, r5, r6, r7, r8⟩ := R
  exact ⟨r1, rfl, r3, r4, r5, r6, r7, r8⟩
theorem cR.setT (R : cR h C D Pu oc t fc fd nx nc nd) (oc' t' : Int32) : cR (mj_so h 2 17 (oCrt (nI nc) oc' (nI nd) t')) C D Pu oc' t' fc fd nx nc nd := by
  obtain ⟨r1, r2, r3, r4, r5, r6, r7, r8⟩ := R
  exact ⟨rfl, r2, r3, r4, r5, r6, r7, r8⟩
theorem cR.c (R : cR h C D Pu oc t fc fd nx nc nd) {c : Nat} (hc : c < nc) : ∃ a, fc c = some a ∧ h.1 1 a = some (C c) ∧ (fc c).getD 0 = a := by
  obtain ⟨a, -, a2, a3⟩ := R.2.2.2.2.1 c hc
  exact ⟨a, a2, a3, by rw [a2]; rfl⟩
theorem cR.d (R : cR h C D Pu oc t fc fd nx nc nd) {d : Nat} (hd : d < nd) : ∃ a, fd d = some a ∧ h.1 3 a = some (D d) := by
  obtain ⟨a, -, a2, a3⟩ := R.2.2.2.2.2.1 d hd
  exact ⟨a, a2, a3⟩
theorem cR.newC (R : cR h C D Pu oc t fc fd nx nc nd) (x : List Value) (oc' : Int32) : cR (mj_so (mj_sr (mj_so h 1 nx x) 1 19 40 (va_up fc nc (some nx))) 2 17 (oCrt (nI nc + 1) oc' (nI nd) t)) (ul C nc x) D Pu oc' t (va_up fc nc (some nx)) fd (nx + 1) (nc + 1) nd := by
  obtain ⟨r1, r2, r3, r4, r5, r6, r7, r8⟩ := R
  refine ⟨by rw [nI_1]; rfl, r2, rfl, r4, fun j hj => ?_, fun j hj => ?_, fun i j hi hj e => ?_, r8⟩
  · by_cases e : j = nc
    · subst e
      exact ⟨nx, by omega, vu_s, by rw [ul_s]; exact so_self (h := h) (ci := 1) (a := nx) (x := x)⟩
    · obtain ⟨b, b1, b2, b3⟩ := r5 j (by omega)
      refine ⟨b, by omega, by rw [vu_n e]; exact b2, ?_⟩
      rw [ul_n e]
      exact (so_ne (by omega)).trans b3
  · obtain ⟨b, b1, b2, b3⟩ := r6 j hj
    exact ⟨b, by omega, b2, b3⟩
  · by_cases ei : i = nc
    · by_cases ej : j = nc
      · omega
      · subst ei
        rw [vu_s, vu_n ej] at e
        obtain ⟨b, b1, b2, b3⟩ := r5 j (by omega)
        rw [b2] at e
        have := Option.some.inj e
        omega
    · by_cases ej : j = nc
      · subst ej
        rw [vu_s, vu_n ei] at e
        obtain ⟨b, b1, b2, b3⟩ := r5 i (by omega)
        rw [b2] at e
        have := Option.some.inj e
        omega
      · rw [vu_n ei, vu_n ej] at e
        exact r7 i j (by omega) (by omega) e
theorem cR.newD (R : cR h C D Pu oc t fc fd nx nc nd) (x : List Value) : cR (mj_so (mj_sr (mj_so h 3 nx x) 3 20 80 (va_up fd nd (some nx))) 2 17 (oCrt (nI nc) oc (nI nd + 1) t)) C (ul D nd x) Pu oc t fc (va_up fd nd (some nx)) (nx + 1) nc (nd + 1) := by
  obtain ⟨r1, r2, r3, r4, r5, r6, r7, r8⟩ := R
  refine ⟨by rw [nI_1]; rfl, r2, r3, rfl, fun j hj => ?_, fun j hj => ?_, r7, fun i j hi hj e => ?_⟩
  · obtain ⟨b, b1, b2, b3⟩ := r5 j hj
    exact ⟨b, by omega, b2, b3⟩
  · by_cases e : j = nd
    · subst e
      exact ⟨nx, by omega, vu_s, by rw [ul_s]; exact so_self (h := h) (ci := 3) (a := nx) (x := x)⟩
    · obtain ⟨b, b1, b2, b3⟩ := r6 j (by omega)
      refine ⟨b, by omega, by rw [vu_n e]; exact b2, ?_⟩
      rw [ul_n e]
      exact (so_ne (by omega)).trans b3
  · by_cases ei : i = nd
    · by_cases ej : j = nd
      · omega
      · subst ei
        rw [vu_s, vu_n ej] at e
        obtain ⟨b, b1, b2, b3⟩ := r6 j (by omega)
        rw [b2] at e
        have := Option.some.inj e
        omega
    · by_cases ej : j = nd
      · subst ej
        rw [vu_s, vu_n ei] at e
        obtain ⟨b, b1, b2, b3⟩ := r6 i (by omega)
        rw [b2] at e
        have := Option.some.inj e
        omega
      · rw [vu_n ei, vu_n ej] at e
        exact r8 i j (by omega) (by omega) e
end CRS
def Cof (S : rf_S) (od : Nat → Int32) (c : Nat) : List Value := oClm (nI c) (S.1 16 c) (S.1 17 c) (S.2 18 c) (S.1 19 c) (od c) (S.1 20 c)
def Dof (S : rf_S) (fc : Nat → Option Nat) (to : Nat → Int32) (md : Nat → Int64) (d : Nat) : List Value := oDis (S.1 22 d) ((fc (S.1 23 d).toNatClampNeg).getD 0) (S.1 24 d) (S.1 25 d) (S.1 26 d) (S.2 27 d) (S.2 28 d) (to d) (md d) (S.1 31 d) (S.1 32 d) (S.1 33 d)
/-- the court is as S says -/
abbrev cS (h : mj_H) (S : rf_S) (od to : Nat → Int32) (md : Nat → Int64) (oc : Int32) (fc fd : Nat → Option Nat) (nx nc nd : Nat) : Prop := cR h (Cof S od) (Dof S fc to md) (S.1 14) oc (S.1 13 0) fc fd nx nc nd
