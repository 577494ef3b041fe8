/-! the class: instruction -/
theorem cell_iff {a : Int32} : isN a 16 ↔ 0 ≤ a ∧ a ≤ 15 := by
  have e16 : (16 : Int32).toInt = 16 := by decide +kernel
  have e15 : (15 : Int32).toInt = 15 := by decide +kernel
  unfold isN
  rw [Int32.lt_iff_toInt_lt, Int32.le_iff_toInt_le, Int32.le_iff_toInt_le, e16, e15]
  omega
theorem cPq.ext {h : mj_H} {nx p l n : Nat} {P P' : mP} (q : cPq h nx p l P n) (hl : P'.2.2.2.2 = P.2.2.2.2) (hj : ∀ j, j < n → P'.1 j = P.1 j ∧ P'.2.1 j = P.2.1 j ∧ P'.2.2.1 j = P.2.2.1 j ∧ P'.2.2.2.1 j = P.2.2.2.1 j) : cPq h nx p l P' n := by
  obtain ⟨a1, a2, a3, a4, a5, f, a6, a7⟩ := q
  refine ⟨a1, hl.trans a2, a3, a4, a5, f, a6, fun j hjn => ?_⟩
  obtain ⟨i, b1, b2, b3⟩ := a7 j hjn
  obtain ⟨e1, e2, e3, e4⟩ := hj j hjn
  exact ⟨i, b1, b2, by rw [e1, e2, e3, e4]; exact b3⟩
/-- what is below nx stays: the program does -/
theorem cPq.fr {h h' : mj_H} {nx nx' p l n : Nat} {P : mP} (q : cPq h nx p l P n) (hn : nx ≤ nx') (h8 : h'.1 8 p = h.1 8 p) (h4 : h'.2.2.2 4 l = h.2.2.2 4 l) (ho : ∀ i, i < nx → h'.1 4 i = h.1 4 i) : cPq h' nx' p l P n := by
  obtain ⟨a1, a2, a3, a4, a5, f, a6, a7⟩ := q
  refine ⟨a1, a2, by omega, by omega, by rw [h8]; exact a5, f, by rw [h4]; exact a6, fun j hjn => ?_⟩
  obtain ⟨i, b1, b2, b3⟩ := a7 j hjn
  exact ⟨i, by omega, b2, by rw [ho i b1]; exact b3⟩
theorem cBa.fr {h h' : mj_H} {S S' : rf_S} {nx nx' pa la pa' la' b : Nat} {x : Option Nat} (q : cBa h S nx pa la b x) (hn : nx ≤ nx') (h0 : ∀ i, i < nx → h'.1 0 i = h.1 0 i) (hf : ∀ i, 52 ≤ i → i < nx → h'.2.1 i = h.2.1 i) (h8 : ∀ i, i < nx → i ≠ pa → h'.1 8 i = h.1 8 i) (h4 : ∀ i, i < nx → i ≠ la → h'.2.2.2 4 i = h.2.2.2 4 i) (ho : ∀ i, i < nx → h'.1 4 i = h.1 4 i) (e8 : S'.1 8 b = S.1 8 b) (e7 : ∀ i, i < 4 → S'.1 7 (4 * b + i) = S.1 7 (4 * b + i)) (e6 : S'.1 6 b = S.1 6 b) (eP : ∀ q j, q < 4 → j < 24 → S'.1 q (24 * b + j) = S.1 q (24 * b + j)) (hpa : ∀ i, i < nx → i ≠ pa → i ≠ pa') (hla : ∀ i, i < nx → i ≠ la → i ≠ la') : cBa h' S' nx' pa' la' b x := by
  obtain ⟨a, p, l, fa, n, F, c1, c2, c3, c4, c5, c6, c7, c8, c9, c10⟩ := q
  have hp := c8.2.2.1
  have hl := c8.2.2.2.1
  have hn24 := c8.1
  refine ⟨a, p, l, fa, n, F, c1, by omega, by rw [h0 a c2, e8]; exact c3, c4, by omega, by rw [hf fa c4 c5]; exact c6, fun i hi => by rw [e7 i hi]; exact c7 i hi, ?_, hpa p hp c9, hla l hl c10⟩
  refine (c8.fr hn (h8 p hp c9) (h4 l hl c10) ho).ext e6 (fun j hj => ⟨eP 0 j (by omega) (by omega), eP 1 j (by omega) (by omega), eP 2 j (by omega) (by omega), eP 3 j (by omega) (by omega)⟩)
def sp_in1 (S : rf_S) (dr : Nat) (op a b c : Int32) : rf_S := sI (sA (sA (sA (sA S 0 (192 + dr) op) 1 (192 + dr) a) 2 (192 + dr) b) 3 (192 + dr) c) 4 (nI dr + 1)
theorem wf_O.ins {S : rf_S} {dr a b : Nat} {op c : Int32} (h : wf_O S) (ha : a < 16) (hb : b < 16) (hop : op8 op ∨ op = 9) : wf_O (sp_in1 S dr op (nI a) (nI b) c) := by
  obtain ⟨⟨h1, h2, h3⟩, h4, h5⟩ := h
  refine ⟨⟨fun k => ?_, fun k => ?_, h3⟩, fun k => ?_, h5⟩
  · show ∃ x, x < 16 ∧ upd (S.1 1) (192 + dr) (nI a) k = nI x
    by_cases e : k = 192 + dr
    · rw [e, pk_us]; exact ⟨a, ha, rfl⟩
    · rw [pk_un e]; exact h1 k
  · show ∃ x, x < 16 ∧ upd (S.1 2) (192 + dr) (nI b) k = nI x
    by_cases e : k = 192 + dr
    · rw [e, pk_us]; exact ⟨b, hb, rfl⟩
    · rw [pk_un e]; exact h2 k
  · show op8 (upd (S.1 0) (192 + dr) op k) ∨ upd (S.1 0) (192 + dr) op k = 9
    by_cases e : k = 192 + dr
    · rw [e, pk_us]; exact hop
    · rw [pk_un e]; exact h4 k
theorem op_of {op : Int32} (h : 0 ≤ op ∧ op ≤ 9) : op8 op ∨ op = 9 := by
  obtain ⟨o, ho, rfl⟩ := le_nat h.1
  have h9 : o ≤ 9 := (nI_leI (a := o) (b := 9) ho (by omega)).mp h.2
  unfold op8
  match o, h9 with
  | 0, _ => exact Or.inl (Or.inl rfl)
  | 1, _ => exact Or.inl (Or.inr (Or.inl rfl))
  | 2, _ => exact Or.inl (Or.inr (Or.inr (Or.inl rfl)))
  | 3, _ => exact Or.inl (Or.inr (Or.inr (Or.inr (Or.inl rfl))))
  | 4, _ => exact Or.inl (Or.inr (Or.inr (Or.inr (Or.inr (Or.inl rfl)))))
  | 5, _ => exact Or.inl (Or.inr (Or.inr (Or.inr (Or.inr (Or.inr (Or.inl rfl))))))
  | 6, _ => exact Or.inl (Or.inr (Or.inr (Or.inr (Or.inr (Or.inr (Or.inr (Or.inl rfl)))))))
  | 7, _ => exact Or.inl (Or.inr (Or.inr (Or.inr (Or.inr (Or.inr (Or.inr (Or.inr (Or.inl rfl))))))))
  | 8, _ => exact Or.inl (Or.inr (Or.inr (Or.inr (Or.inr (Or.inr (Or.inr (Or.inr (Or.inr rfl))))))))
  | 9, _ => exact Or.inr rfl
/-- only programs changed -/
def fB (h h' : mj_H) (nx : Nat) : Prop := (∀ c, c ≠ 0 → c ≠ 4 → c ≠ 8 → c ≠ 9 → h'.1 c = h.1 c) ∧ (∀ q, q < nx → h'.2.1 q = h.2.1 q) ∧ h'.2.2.1 = h.2.2.1 ∧ ∀ c, c ≠ 0 → c ≠ 4 → h'.2.2.2 c = h.2.2.2 c
theorem fB.rf (h : mj_H) (nx : Nat) : fB h h nx := ⟨fun _ _ _ _ _ => rfl, fun _ _ => rfl, rfl, fun _ _ _ => rfl⟩
theorem fB.so {h h' : mj_H} {nx : Nat} (a : fB h h' nx) {ci q : Nat} {fs : List Value} (hc : ci = 0 ∨ ci = 4 ∨ ci = 8 ∨ ci = 9) : fB h (mj_so h' ci q fs) nx := ⟨fun c h1 h2 h3 h4 => by
  rw [← a.1 c h1 h2 h3 h4]
  funext z
  show (if c = ci then _ else h'.1 c z) = h'.1 c z
  rw [if_neg (by omega)], a.2.1, a.2.2.1, a.2.2.2⟩
theorem fB.si {h h' : mj_H} {nx : Nat} (a : fB h h' nx) {q n : Nat} {f : Nat → Int32} (hq : nx ≤ q) : fB h (mj_si h' q n f) nx := ⟨a.1, fun z hz => (si_ne (by omega)).trans (a.2.1 z hz), a.2.2.1, a.2.2.2⟩
theorem fB.sr {h h' : mj_H} {nx : Nat} (a : fB h h' nx) {ci q n : Nat} {f : Nat → Option Nat} (hc : ci = 0 ∨ ci = 4) : fB h (mj_sr h' ci q n f) nx := ⟨a.1, a.2.1, a.2.2.1, fun c h1 h3 => by
  rw [← a.2.2.2 c h1 h3]
  funext z
  show (if c = ci then _ else h'.2.2.2 c z) = h'.2.2.2 c z
  rw [if_neg (by omega)]⟩
abbrev cKb (M : mj_M) (as : List Value) (h : mj_H) (nx mc ms : Nat) (P : Int32 × rf_S) : Prop := mj_K M as h nx mc ms (fun r h' nx' => r = some (.int P.1) ∧ (nx ≤ nx' ∧ nx' ≤ nx + mc) ∧ fB h h' nx ∧ wf_O P.2 ∧ ∃ nb dr, iB h' P.2 nx' nb dr)
theorem cb {P : Int32 × rf_S} {v : Int32} {S' : rf_S} {h h' : mj_H} {nx nx' mc nb dr : Nat} (e : P = (v, S')) (hx : nx ≤ nx' ∧ nx' ≤ nx + mc) (f : fB h h' nx) (w : wf_O S') (i : iB h' S' nx' nb dr) : some (Value.int v) = some (.int P.1) ∧ (nx ≤ nx' ∧ nx' ≤ nx + mc) ∧ fB h h' nx ∧ wf_O P.2 ∧ ∃ nb dr, iB h' P.2 nx' nb dr := by subst e; exact ⟨rfl, hx, f, w, nb, dr, i⟩
set_option maxRecDepth 20000 in
set_option maxHeartbeats 4000000 in
theorem K_Top_instruction (h : mj_H) (S : rf_S) (nx nb dr : Nat) (op a b c : Int32) (hi : iB h S nx nb dr) (hw : wf_O S) : cKb me_Top_instruction [.ref 0, .int op, .int a, .int b, .int c] h nx 1 4 (sp_instruction S op a b c) := by
  refine mj_K.of ok_Top_instruction ck_Top_instruction (Nat.le_of_ble_eq_true rfl) ?_
  obtain ⟨h8, hnb, hdr, pa, la, fb, ht, hfb, hd, hbs⟩ := id hi
  have hd24 := hd.1
  by_cases c0 : (0 ≤ op ∧ op ≤ 9) ∧ isN a 16 ∧ isN b 16
  · obtain ⟨⟨o1, o2⟩, a1, b1⟩ := c0
    obtain ⟨f, d1, d2⟩ := hd.2.2.2.2.2
    have dp := hd.2.2.1
    have dl := hd.2.2.2.1
    have d8 := hd.2.2.2.2.1
    by_cases hlt : dr < 24
    · obtain ⟨a0, ha, rfl⟩ := isN_nat (n := 16) (by omega) a1
      obtain ⟨b0, hb, rfl⟩ := isN_nat (n := 16) (by omega) b1
      have esp : sp_instruction S op (nI a0) (nI b0) c = (nI (dr + 1), sp_in1 S dr op (nI a0) (nI b0) c) := by
        rw [sp_instruction, if_pos ⟨⟨⟨o1, o2⟩, cell_iff.mp a1, cell_iff.mp b1⟩, fun q => by have := hdr.symm.trans q; have := (nI_eq (a := dr) (b := 24) (by omega) (by omega)).mp this; omega⟩, hdr, nI_clamp (by omega), ← nI_1]
        rfl
      have eI : iB (mj_so (mj_sr (mj_so h 4 nx (oIns op (nI a0) (nI b0) c)) 4 la 24 (va_up f dr (some nx))) 8 pa (oPrg la (nI (dr + 1)))) (sp_in1 S dr op (nI a0) (nI b0) c) (nx + 1) nb (dr + 1) := by
        refine ⟨h8, hnb, ?_, pa, la, fb, ht, hfb, ⟨by omega, ?_, by omega, by omega, so_self, va_up f dr (some nx), ?_, fun j hj => ?_⟩, fun bb hbb => ?_⟩
        · show nI dr + 1 = _
          rw [nI_1]
        · show nI dr + 1 = _
          rw [nI_1]
        · exact sr_self (h := mj_so h 4 nx (oIns op (nI a0) (nI b0) c)) (ci := 4) (a := la) (n := 24)
        · show ∃ i, i < nx + 1 ∧ va_up f dr (some nx) j = some i ∧ (mj_so h 4 nx (oIns op (nI a0) (nI b0) c)).1 4 i = some (oIns (upd (S.1 0) (192 + dr) op (192 + j)) (upd (S.1 1) (192 + dr) (nI a0) (192 + j)) (upd (S.1 2) (192 + dr) (nI b0) (192 + j)) (upd (S.1 3) (192 + dr) c (192 + j)))
          by_cases e : j = dr
          · subst e
            rw [pk_us, pk_us, pk_us, pk_us]
            exact ⟨nx, by omega, vu_s, so_self⟩
          · rw [pk_un (by omega), pk_un (by omega), pk_un (by omega), pk_un (by omega), vu_n e]
            obtain ⟨i, i1, i2, i3⟩ := d2 j (by omega)
            exact ⟨i, by omega, i2, by rw [so_ne (by omega)]; exact i3⟩
        · refine (hbs bb hbb).fr (by omega) (fun i hi => rfl) (fun i _ hi => rfl) (fun i hi he => so_ne he) (fun i hi he => sr_ne (h := mj_so h 4 nx (oIns op (nI a0) (nI b0) c)) (n := 24) he) (fun i hi => so_ne (h := h) (ci := 4) (a := nx) (b := i) (x := oIns op (nI a0) (nI b0) c) (by omega)) rfl (fun i hi => rfl) rfl (fun q j hq hj => ?_) (fun i _ he => he) (fun i _ he => he)
          match q, hq with
          | 0, _ => exact pk_un (by omega)
          | 1, _ => exact pk_un (by omega)
          | 2, _ => exact pk_un (by omega)
          | 3, _ => exact pk_un (by omega)
      refine mj_r_pure rfl rfl ?_
      refine mj_r_if_lt rfl (fun z1 => absurd z1 (fun q => absurd o1 (lt0_nge q))) (fun z1 => ?_)
      iterate 2 (refine mj_r_pure rfl rfl ?_)
      refine mj_r_icmp_gt rfl (fun z2 => absurd z2 (fun q => absurd o2 (lt_nle q))) (fun z2 => ?_)
      refine mj_r_pure rfl rfl ?_
      refine mj_r_callS (kc := 1) (ks := 4) rfl li_Top_47 ck_Top_isCell iv_Top_isCell (by decide) rfl (K_Top_isCell _ _ nx) rfl rfl (Nat.le_of_ble_eq_true rfl) ?_
      rintro _ _ _ ⟨rfl, rfl, rfl⟩ _
      rw [bI_t a1]
      refine mj_r_if_eq rfl (fun z3 => absurd z3 (by decide)) (fun z3 => ?_)
      refine mj_r_pure rfl rfl ?_
      refine mj_r_callS (kc := 1) (ks := 4) rfl li_Top_47 ck_Top_isCell iv_Top_isCell (by decide) rfl (K_Top_isCell _ _ nx) rfl rfl (Nat.le_of_ble_eq_true rfl) ?_
      rintro _ _ _ ⟨rfl, rfl, rfl⟩ _
      rw [bI_t b1]
      refine mj_r_if_ne rfl (fun z4 => ?_) (fun z4 => absurd z4 (by decide))
      refine mj_r_pure rfl rfl ?_
      refine mj_r_getf rfl rfl ht rfl ?_
      refine mj_r_new (N := 4) rfl rfl rfl rfl ?_
      iterate 5 (refine mj_r_pure rfl rfl ?_)
      refine mj_r_cI0 rfl li_Top_53 ck_Instruction_init iv_Instruction_init rfl rfl (by decide) ((K_Instruction_init 0 0 0 0 _ nx (nx + 1) [] so_self op (nI a0) (nI b0) c)) rfl rfl (Nat.le_of_ble_eq_true rfl) ?_
      rintro _ _ _ ⟨rfl, rfl, rfl⟩ _
      rw [so_so]
      refine mj_r_cV0 (ci := 8)  rfl li_Top_56 ck_Program_append iv_Program_append (by decide) ((K_Program_append_t _ pa la dr nx (nx + 1) f _ d8 d1 so_self hlt)) rfl rfl (Nat.le_of_ble_eq_true rfl) rfl d8 ?_
      rintro _ _ _ ⟨rfl, rfl, rfl⟩ _
      exact mj_r_iret rfl rfl rfl ((cb esp ⟨by omega, by omega⟩ ((((fB.rf _ nx).so (Or.inr (Or.inl rfl))).sr (Or.inr rfl)).so (Or.inr (Or.inr (Or.inl rfl)))) (hw.ins ha hb (op_of ⟨o1, o2⟩)) eI))
    · have e24 : dr = 24 := by omega
      subst e24
      have esp : sp_instruction S op a b c = (-1, S) := by rw [sp_instruction, if_neg (fun q => q.2 hdr)]
      have eI : iB (mj_so h 4 nx (oIns op a b c)) S (nx + 1) nb 24 := by
        refine ⟨h8, hnb, hdr, pa, la, fb, ht, hfb, hd.fr (by omega) rfl rfl (fun i hi => so_ne (by omega)), fun bb hbb => ?_⟩
        exact (hbs bb hbb).fr (by omega) (fun i hi => rfl) (fun i _ hi => rfl) (fun i hi he => rfl) (fun i hi he => rfl) (fun i hi => so_ne (by omega)) rfl (fun i hi => rfl) rfl (fun q j hq hj => rfl) (fun i _ he => he) (fun i _ he => he)
      refine mj_r_pure rfl rfl ?_
      refine mj_r_if_lt rfl (fun z1 => absurd z1 (fun q => absurd o1 (lt0_nge q))) (fun z1 => ?_)
      iterate 2 (refine mj_r_pure rfl rfl ?_)
      refine mj_r_icmp_gt rfl (fun z2 => absurd z2 (fun q => absurd o2 (lt_nle q))) (fun z2 => ?_)
      refine mj_r_pure rfl rfl ?_
      refine mj_r_callS (kc := 1) (ks := 4) rfl li_Top_47 ck_Top_isCell iv_Top_isCell (by decide) rfl (K_Top_isCell _ _ nx) rfl rfl (Nat.le_of_ble_eq_true rfl) ?_
      rintro _ _ _ ⟨rfl, rfl, rfl⟩ _
      rw [bI_t a1]
      refine mj_r_if_eq rfl (fun z3 => absurd z3 (by decide)) (fun z3 => ?_)
      refine mj_r_pure rfl rfl ?_
      refine mj_r_callS (kc := 1) (ks := 4) rfl li_Top_47 ck_Top_isCell iv_Top_isCell (by decide) rfl (K_Top_isCell _ _ nx) rfl rfl (Nat.le_of_ble_eq_true rfl) ?_
      rintro _ _ _ ⟨rfl, rfl, rfl⟩ _
      rw [bI_t b1]
      refine mj_r_if_ne rfl (fun z4 => ?_) (fun z4 => absurd z4 (by decide))
      refine mj_r_pure rfl rfl ?_
      refine mj_r_getf rfl rfl ht rfl ?_
      refine mj_r_new (N := 4) rfl rfl rfl rfl ?_
      iterate 5 (refine mj_r_pure rfl rfl ?_)
      refine mj_r_cI0 rfl li_Top_53 ck_Instruction_init iv_Instruction_init rfl rfl (by decide) ((K_Instruction_init 0 0 0 0 _ nx (nx + 1) [] so_self op a b c)) rfl rfl (Nat.le_of_ble_eq_true rfl) ?_
      rintro _ _ _ ⟨rfl, rfl, rfl⟩ _
      rw [so_so]
      refine mj_r_cV0 (ci := 8)  rfl li_Top_56 ck_Program_append iv_Program_append (by decide) ((K_Program_append_f _ pa la nx (nx + 1) d8)) rfl rfl (Nat.le_of_ble_eq_true rfl) rfl d8 ?_
      rintro _ _ _ ⟨rfl, rfl, rfl⟩ _
      exact mj_r_iret rfl rfl rfl ((cb esp ⟨by omega, by omega⟩ ((fB.rf _ nx).so (Or.inr (Or.inl rfl))) hw eI))
  · have esp : sp_instruction S op a b c = (-1, S) := by rw [sp_instruction, if_neg (fun q => c0 ⟨q.1.1, cell_iff.mpr q.1.2.1, cell_iff.mpr q.1.2.2⟩)]
    have fin : some (Value.int (-1)) = some (.int (sp_instruction S op a b c).1) ∧ (nx ≤ nx ∧ nx ≤ nx + 1) ∧ fB h h nx ∧ wf_O (sp_instruction S op a b c).2 ∧ ∃ nb dr, iB h (sp_instruction S op a b c).2 nx nb dr := cb esp ⟨by omega, by omega⟩ (fB.rf _ nx) hw hi
    by_cases a1 : isN a 16
    · by_cases b1 : isN b 16
      · refine mj_r_pure rfl rfl ?_
        refine mj_r_if_lt rfl (fun z1 => ?_) (fun z1 => ?_)
        · refine mj_r_pure rfl rfl ?_
          exact mj_r_iret rfl rfl rfl (fin)
        · iterate 2 (refine mj_r_pure rfl rfl ?_)
          refine mj_r_icmp_gt rfl (fun z2 => ?_) (fun z2 => ?_)
          · refine mj_r_pure rfl rfl ?_
            exact mj_r_iret rfl rfl rfl (fin)
          · exact absurd ⟨⟨nlt0_le z1, nlt_le z2⟩, a1, b1⟩ c0
      · refine mj_r_pure rfl rfl ?_
        refine mj_r_if_lt rfl (fun z1 => ?_) (fun z1 => ?_)
        · refine mj_r_pure rfl rfl ?_
          exact mj_r_iret rfl rfl rfl (fin)
        · iterate 2 (refine mj_r_pure rfl rfl ?_)
          refine mj_r_icmp_gt rfl (fun z2 => ?_) (fun z2 => ?_)
          · refine mj_r_pure rfl rfl ?_
            exact mj_r_iret rfl rfl rfl (fin)
          · refine mj_r_pure rfl rfl ?_
            refine mj_r_callS (kc := 1) (ks := 4) rfl li_Top_47 ck_Top_isCell iv_Top_isCell (by decide) rfl (K_Top_isCell _ _ nx) rfl rfl (Nat.le_of_ble_eq_true rfl) ?_
            rintro _ _ _ ⟨rfl, rfl, rfl⟩ _
            rw [bI_t a1]
            refine mj_r_if_eq rfl (fun z3 => absurd z3 (by decide)) (fun z3 => ?_)
            refine mj_r_pure rfl rfl ?_
            refine mj_r_callS (kc := 1) (ks := 4) rfl li_Top_47 ck_Top_isCell iv_Top_isCell (by decide) rfl (K_Top_isCell _ _ nx) rfl rfl (Nat.le_of_ble_eq_true rfl) ?_
            rintro _ _ _ ⟨rfl, rfl, rfl⟩ _
            rw [bI_f b1]
            refine mj_r_if_ne rfl (fun z4 => absurd z4 (fun q => q rfl)) (fun z4 => ?_)
            refine mj_r_pure rfl rfl ?_
            exact mj_r_iret rfl rfl rfl (fin)
    · refine mj_r_pure rfl rfl ?_
      refine mj_r_if_lt rfl (fun z1 => ?_) (fun z1 => ?_)
      · refine mj_r_pure rfl rfl ?_
        exact mj_r_iret rfl rfl rfl (fin)
      · iterate 2 (refine mj_r_pure rfl rfl ?_)
        refine mj_r_icmp_gt rfl (fun z2 => ?_) (fun z2 => ?_)
        · refine mj_r_pure rfl rfl ?_
          exact mj_r_iret rfl rfl rfl (fin)
        · refine mj_r_pure rfl rfl ?_
          refine mj_r_callS (kc := 1) (ks := 4) rfl li_Top_47 ck_Top_isCell iv_Top_isCell (by decide) rfl (K_Top_isCell _ _ nx) rfl rfl (Nat.le_of_ble_eq_true rfl) ?_
          rintro _ _ _ ⟨rfl, rfl, rfl⟩ _
          rw [bI_f a1]
          refine mj_r_if_eq rfl (fun z3 => ?_) (fun z3 => absurd z3 (fun q => q rfl))
          refine mj_r_pure rfl rfl ?_
          exact mj_r_iret rfl rfl rfl (fin)
