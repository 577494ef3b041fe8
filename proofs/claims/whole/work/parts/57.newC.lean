/-! the class's constructors -/
def fM (h h' : mj_H) : Prop := (∀ c, c ≠ 5 → h'.1 c = h.1 c) ∧ (∀ q, q ≠ 5 → h'.2.1 q = h.2.1 q) ∧ (∀ q, q ≠ 6 → h'.2.2.1 q = h.2.2.1 q) ∧ h'.2.2.2 = h.2.2.2
theorem fM.rf (h : mj_H) : fM h h := ⟨fun _ _ => rfl, fun _ _ => rfl, fun _ _ => rfl, rfl⟩
theorem fM.so {h h' : mj_H} (a : fM h h') {q : Nat} {fs : List Value} : fM h (mj_so h' 5 q fs) := ⟨fun c h1 => by
  rw [← a.1 c h1]
  funext z
  show (if c = 5 then _ else h'.1 c z) = h'.1 c z
  rw [if_neg h1], a.2.1, a.2.2.1, a.2.2.2⟩
theorem fM.si {h h' : mj_H} (a : fM h h') {n : Nat} {f : Nat → Int32} : fM h (mj_si h' 5 n f) := ⟨a.1, fun q hq => (si_ne hq).trans (a.2.1 q hq), a.2.2.1, a.2.2.2⟩
theorem fM.sl {h h' : mj_H} (a : fM h h') {n : Nat} {f : Nat → Int64} : fM h (mj_sl h' 6 n f) := ⟨a.1, a.2.1, fun q hq => (sl_ne hq).trans (a.2.2.1 q hq), a.2.2.2⟩
set_option maxRecDepth 20000 in
set_option maxHeartbeats 4000000 in
theorem K_Machine_init (h : mj_H) (ho : h.1 5 4 = some [.null, .null, .int 0, .int 0]) : mj_K me_Machine_init [.ref 4] h 5 2 48 (fun r h' nx' => r = none ∧ nx' = 7 ∧ fM h h' ∧ iM h') := by
  refine mj_K.of ok_Machine_init ck_Machine_init (Nat.le_of_ble_eq_true rfl) ?_
  refine mj_r_pure rfl rfl ?_
  refine mj_r_oi rfl oi_Machine (by decide) (by decide) ?_
  iterate 2 (refine mj_r_pure rfl rfl ?_)
  refine mj_r_newI (N := 16) rfl (by decide) (by decide) (by decide) ?_
  refine mj_r_putf rfl rfl ho rfl (Or.inr ⟨rfl, rfl, rfl⟩) rfl rfl ?_
  iterate 2 (refine mj_r_pure rfl rfl ?_)
  refine mj_r_newJ (N := 32) rfl (by decide) (by decide) (by decide) ?_
  refine mj_r_putf rfl rfl rfl rfl (Or.inr ⟨rfl, rfl, rfl⟩) rfl rfl ?_
  iterate 2 (refine mj_r_pure rfl rfl ?_)
  refine mj_r_putf rfl rfl rfl rfl (Or.inl rfl) rfl rfl ?_
  iterate 2 (refine mj_r_pure rfl rfl ?_)
  refine mj_r_putf rfl rfl rfl rfl (Or.inl rfl) rfl rfl ?_
  exact mj_r_ret rfl rfl ⟨rfl, rfl, (((((fM.rf h).si).so).sl).so.so).so, ⟨(fun _ => 0, 0, 0), fun _ => 0, rfl, rfl, rfl⟩⟩
def fN (h h' : mj_H) : Prop := (∀ c, c ≠ 6 → c ≠ 7 → h'.1 c = h.1 c) ∧ h'.2.1 = h.2.1 ∧ h'.2.2.1 6 = h.2.2.1 6 ∧ ∀ c, c ≠ 6 → h'.2.2.2 c = h.2.2.2 c
theorem fN.rf (h : mj_H) : fN h h := ⟨fun _ _ _ => rfl, rfl, rfl, fun _ _ => rfl⟩
theorem fN.so {h h' : mj_H} (a : fN h h') {ci q : Nat} {fs : List Value} (hc : ci = 6 ∨ ci = 7) : fN h (mj_so h' ci q fs) := ⟨fun c h6 h7 => by
  rw [← a.1 c h6 h7]
  funext z
  show (if c = ci then _ else h'.1 c z) = h'.1 c z
  rw [if_neg (by omega)], a.2.1, a.2.2.1, a.2.2.2⟩
theorem fN.sl {h h' : mj_H} (a : fN h h') {q n : Nat} {f : Nat → Int64} (hq : 6 ≠ q) : fN h (mj_sl h' q n f) := ⟨a.1, a.2.1, (sl_ne hq).trans a.2.2.1, a.2.2.2⟩
theorem fN.sr {h h' : mj_H} (a : fN h h') {q n : Nat} {f : Nat → Option Nat} : fN h (mj_sr h' 6 q n f) := ⟨a.1, a.2.1, a.2.2.1, fun c h1 => by
  rw [← a.2.2.2 c h1]
  funext z
  show (if c = 6 then _ else h'.2.2.2 c z) = h'.2.2.2 c z
  rw [if_neg h1]⟩
def hOn (h : mj_H) (i : Nat) (d : List Value) (f : Nat → Option Nat) : mj_H := mj_sr (mj_so (mj_sl (mj_so h 6 (9 + 2 * i) d) (10 + 2 * i) 4 (fun _ => 0)) 6 (9 + 2 * i) (oOn 0 0 (10 + 2 * i))) 6 8 4 f
def hPap (h : mj_H) (l d : List Value) : mj_H := hOn (hOn (hOn (hOn (mj_so (mj_sr (mj_so (mj_so (mj_so h 7 7 l) 7 7 l) 7 7 l) 6 8 4 (fun _ => none)) 7 7 (oPap 0 0 0)) 0 d (va_up (fun _ => none) 0 (some 9))) 1 d (va_up (va_up (fun _ => none) 0 (some 9)) 1 (some 11))) 2 d (va_up (va_up (va_up (fun _ => none) 0 (some 9)) 1 (some 11)) 2 (some 13))) 3 d (va_up (va_up (va_up (va_up (fun _ => none) 0 (some 9)) 1 (some 11)) 2 (some 13)) 3 (some 15))
theorem fN.on {h h' : mj_H} (a : fN h h') {i : Nat} {d : List Value} {f : Nat → Option Nat} : fN h (hOn h' i d f) := (((a.so (Or.inl rfl)).sl (by omega)).so (Or.inl rfl)).sr
theorem hPap_fN (h : mj_H) (l d : List Value) : fN h (hPap h l d) := (((((((((fN.rf h).so (Or.inr rfl)).so (Or.inr rfl)).so (Or.inr rfl)).sr).so (Or.inr rfl)).on).on).on).on
theorem S0_1 : ∀ p, p ≠ 14 → S0.1 p = fun _ => 0 := fun p hp => by
  have := (fil_kp S00 8).1 p (by simp [hp])
  exact this
theorem S0_2 : S0.2 = fun _ _ => 0 := (fil_kp S00 8).2
theorem hPap_i (h : mj_H) (l d : List Value) : iPa (hPap h l d) S0 0 := by
  refine ⟨⟨by rw [S0_1 36 (by decide)]; rfl, by omega, fun i => ⟨0, by omega, by rw [S0_1 37 (by decide)]; rfl⟩⟩, ?_, ⟨_, rfl, fun i hi => ?_⟩, fun i hi => ?_⟩
  · rw [S0_1 34 (by decide), S0_2]; rfl
  · match i, hi with
    | 0, _ => rfl
    | 1, _ => rfl
    | 2, _ => rfl
    | 3, _ => rfl
  · rw [S0_1 37 (by decide), S0_1 38 (by decide), S0_2]
    match i, hi with
    | 0, _ => exact ⟨rfl, _, rfl, fun _ _ => rfl⟩
    | 1, _ => exact ⟨rfl, _, rfl, fun _ _ => rfl⟩
    | 2, _ => exact ⟨rfl, _, rfl, fun _ _ => rfl⟩
    | 3, _ => exact ⟨rfl, _, rfl, fun _ _ => rfl⟩
set_option maxRecDepth 20000 in
set_option maxHeartbeats 4000000 in
theorem K_Paper_init (h : mj_H) (ho : h.1 7 7 = some [.int 0, .long 0, .int 0, .null]) : mj_K me_Paper_init [.ref 7] h 8 9 32 (fun r h' nx' => r = none ∧ nx' = 17 ∧ fN h h' ∧ iPa h' S0 0) := by
  refine mj_K.of ok_Paper_init ck_Paper_init (Nat.le_of_ble_eq_true rfl) ?_
  refine mj_r_pure rfl rfl ?_
  refine mj_r_oi rfl oi_Paper (by decide) (by decide) ?_
  iterate 2 (refine mj_r_pure rfl rfl ?_)
  refine mj_r_putf rfl rfl ho rfl (Or.inl rfl) rfl rfl ?_
  iterate 2 (refine mj_r_pure rfl rfl ?_)
  refine mj_r_putf rfl rfl rfl rfl (Or.inl rfl) rfl rfl ?_
  iterate 2 (refine mj_r_pure rfl rfl ?_)
  refine mj_r_putf rfl rfl rfl rfl (Or.inl rfl) rfl rfl ?_
  iterate 2 (refine mj_r_pure rfl rfl ?_)
  refine mj_r_newA (N := 4) rfl rfl (by decide) (by decide) (by decide) (by decide) ?_
  refine mj_r_putf rfl rfl rfl rfl (Or.inr ⟨rfl, rfl, rfl⟩) rfl rfl ?_
  iterate 4 (refine mj_r_pure rfl rfl ?_)
  refine mj_r_icmp_ge rfl (fun c1 => absurd c1 (by decide +kernel)) (fun c1 => ?_)
  refine mj_r_pure rfl rfl ?_
  refine mj_r_getf rfl rfl rfl rfl ?_
  refine mj_r_pure rfl rfl ?_
  refine mj_r_new (N := 3) rfl rfl rfl rfl ?_
  refine mj_r_pure rfl rfl ?_
  refine mj_r_callIN (kc := 6) (ks := 21) rfl li_Paper_28 ck_OnPaper_init iv_OnPaper_init rfl rfl (by decide) ((K_OnPaper_init (mj_so _ 6 9 _) 9 10 0 0 .null so_self)) rfl rfl (Nat.le_of_ble_eq_true rfl) ?_
  rintro _ _ _ ⟨rfl, rfl, rfl⟩ _
  refine cx_aast (ci := 6) rfl rfl rfl (show (0 : Int32) = nI 0 from rfl) (by omega) ?_
  iterate 4 (refine mj_r_pure rfl rfl ?_)
  refine mj_r_icmp_ge rfl (fun c2 => absurd c2 (by decide +kernel)) (fun c2 => ?_)
  refine mj_r_pure rfl rfl ?_
  refine mj_r_getf rfl rfl rfl rfl ?_
  refine mj_r_pure rfl rfl ?_
  refine mj_r_new (N := 3) rfl rfl rfl rfl ?_
  refine mj_r_pure rfl rfl ?_
  refine mj_r_callIN (kc := 4) (ks := 14) rfl li_Paper_28 ck_OnPaper_init iv_OnPaper_init rfl rfl (by decide) ((K_OnPaper_init (mj_so _ 6 11 _) 11 12 0 0 .null so_self)) rfl rfl (Nat.le_of_ble_eq_true rfl) ?_
  rintro _ _ _ ⟨rfl, rfl, rfl⟩ _
  refine cx_aast (ci := 6) rfl rfl rfl (show (0 + 1 : Int32) = nI 1 from rfl) (by omega) ?_
  iterate 4 (refine mj_r_pure rfl rfl ?_)
  refine mj_r_icmp_ge rfl (fun c3 => absurd c3 (by decide +kernel)) (fun c3 => ?_)
  refine mj_r_pure rfl rfl ?_
  refine mj_r_getf rfl rfl rfl rfl ?_
  refine mj_r_pure rfl rfl ?_
  refine mj_r_new (N := 3) rfl rfl rfl rfl ?_
  refine mj_r_pure rfl rfl ?_
  refine mj_r_callIN (kc := 2) (ks := 7) rfl li_Paper_28 ck_OnPaper_init iv_OnPaper_init rfl rfl (by decide) ((K_OnPaper_init (mj_so _ 6 13 _) 13 14 0 0 .null so_self)) rfl rfl (Nat.le_of_ble_eq_true rfl) ?_
  rintro _ _ _ ⟨rfl, rfl, rfl⟩ _
  refine cx_aast (ci := 6) rfl rfl rfl (show (0 + 1 + 1 : Int32) = nI 2 from rfl) (by omega) ?_
  iterate 4 (refine mj_r_pure rfl rfl ?_)
  refine mj_r_icmp_ge rfl (fun c4 => absurd c4 (by decide +kernel)) (fun c4 => ?_)
  refine mj_r_pure rfl rfl ?_
  refine mj_r_getf rfl rfl rfl rfl ?_
  refine mj_r_pure rfl rfl ?_
  refine mj_r_new (N := 3) rfl rfl rfl rfl ?_
  refine mj_r_pure rfl rfl ?_
  refine mj_r_callIN (kc := 0) (ks := 0) rfl li_Paper_28 ck_OnPaper_init iv_OnPaper_init rfl rfl (by decide) ((K_OnPaper_init (mj_so _ 6 15 _) 15 16 0 0 .null so_self)) rfl rfl (Nat.le_of_ble_eq_true rfl) ?_
  rintro _ _ _ ⟨rfl, rfl, rfl⟩ _
  refine cx_aast (ci := 6) rfl rfl rfl (show (0 + 1 + 1 + 1 : Int32) = nI 3 from rfl) (by omega) ?_
  iterate 4 (refine mj_r_pure rfl rfl ?_)
  refine mj_r_icmp_ge rfl (fun c5 => ?_) (fun c5 => absurd c5 (by decide +kernel))
  exact mj_r_ret rfl rfl ⟨rfl, rfl, hPap_fN h [.int 0, .long 0, .int 0, .null] [.int 0, .int 0, .null], hPap_i h [.int 0, .long 0, .int 0, .null] [.int 0, .int 0, .null]⟩
set_option maxRecDepth 20000 in
set_option maxHeartbeats 4000000 in
theorem K_Court_init (h : mj_H) (ho : h.1 2 17 = some [.null, .null, .int 0, .int 0, .null, .int 0, .int 0]) : mj_K me_Court_init [.ref 17] h 18 3 128 (fun r h' nx' => r = none ∧ nx' = 21 ∧ fC h h' ∧ iC h' S0 52 0 0 0) := by
  refine mj_K.of ok_Court_init ck_Court_init (Nat.le_of_ble_eq_true rfl) ?_
  refine mj_r_pure rfl rfl ?_
  refine mj_r_oi rfl oi_Court (by decide) (by decide) ?_
  iterate 2 (refine mj_r_pure rfl rfl ?_)
  refine mj_r_newI (N := 8) rfl (by decide) (by decide) (by decide) ?_
  refine mj_r_putf rfl rfl ho rfl (Or.inr ⟨rfl, rfl, rfl⟩) rfl rfl ?_
  iterate 2 (refine mj_r_pure rfl rfl ?_)
  refine mj_r_newA (N := 40) rfl rfl (by decide) (by decide) (by decide) (by decide) ?_
  refine mj_r_putf rfl rfl rfl rfl (Or.inr ⟨rfl, rfl, rfl⟩) rfl rfl ?_
  iterate 2 (refine mj_r_pure rfl rfl ?_)
  refine mj_r_putf rfl rfl rfl rfl (Or.inl rfl) rfl rfl ?_
  iterate 2 (refine mj_r_pure rfl rfl ?_)
  refine mj_r_putf rfl rfl rfl rfl (Or.inl rfl) rfl rfl ?_
  iterate 2 (refine mj_r_pure rfl rfl ?_)
  refine mj_r_newA (N := 80) rfl rfl (by decide) (by decide) (by decide) (by decide) ?_
  refine mj_r_putf rfl rfl rfl rfl (Or.inr ⟨rfl, rfl, rfl⟩) rfl rfl ?_
  iterate 2 (refine mj_r_pure rfl rfl ?_)
  refine mj_r_putf rfl rfl rfl rfl (Or.inl rfl) rfl rfl ?_
  iterate 2 (refine mj_r_pure rfl rfl ?_)
  refine mj_r_putf rfl rfl rfl rfl (Or.inl rfl) rfl rfl ?_
  refine mj_r_pure rfl rfl ?_
  refine mj_r_cV0 (ci := 2)  rfl li_Court_40 ck_Court_restart iv_Court_restart (by decide) ((K_Court_restart _ 21 0 0 0 0 (fun _ => 0) rfl rfl)) rfl rfl (Nat.le_of_ble_eq_true rfl) rfl rfl ?_
  rintro _ _ _ ⟨rfl, rfl, rfl⟩ _
  refine mj_r_ret rfl rfl ⟨rfl, rfl, ((((((((((fC.rf h).si).so (Or.inr (Or.inl rfl))).sr (Or.inl rfl)).so (Or.inr (Or.inl rfl))).so (Or.inr (Or.inl rfl))).so (Or.inr (Or.inl rfl))).sr (Or.inr rfl)).so (Or.inr (Or.inl rfl))).so (Or.inr (Or.inl rfl))).so (Or.inr (Or.inl rfl)) |>.si |>.so (Or.inr (Or.inl rfl)), ?_⟩
  refine ⟨fun _ => 0, fun _ => 0, fun _ => 0, 0, fun _ => none, fun _ => none, ?_, ⟨⟨by rw [S0_1 21 (by decide)]; rfl, by omega, by rw [S0_1 15 (by decide)]; rfl, by omega, fun d hd => absurd hd (by omega), fun d hd => absurd hd (by omega), fun d hd => absurd hd (by omega)⟩, fun c hc => absurd hc (by omega), rfl, fun d hd => absurd hd (by omega)⟩, fun d hd => absurd hd (by omega), fun d hd => absurd hd (by omega), 0, by rw [S0_1 13 (by decide)]; rfl, by omega, fun c hc => absurd hc (by omega)⟩
  show cR _ (Cof S0 _) (Dof S0 _ _ _) (S0.1 14) 0 (S0.1 13 0) _ _ 52 0 0
  rw [S0_1 13 (by decide), show S0.1 14 = fil (fun _ => 0) 8 from fil_sp S00 8]
  exact ⟨rfl, rfl, rfl, rfl, fun c hc => absurd hc (by omega), fun c hc => absurd hc (by omega), fun i j hi => absurd hi (by omega), fun i j hi => absurd hi (by omega)⟩
