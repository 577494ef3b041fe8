/-! the class: batch -/
def cp1 (f : Nat → Int32) (n : Nat) : Nat → (Nat → Int32)
  | 0 => f
  | k + 1 => upd (cp1 f n k) (24 * n + k) (cp1 f n k (192 + k))
theorem cpy_1 (S : rf_S) (n k : Nat) : (sp_cpy S n k).1 0 = cp1 (S.1 0) n k ∧ (sp_cpy S n k).1 1 = cp1 (S.1 1) n k ∧ (sp_cpy S n k).1 2 = cp1 (S.1 2) n k ∧ (sp_cpy S n k).1 3 = cp1 (S.1 3) n k := by
  induction k with
  | zero => exact ⟨rfl, rfl, rfl, rfl⟩
  | succ k ih =>
    obtain ⟨i0, i1, i2, i3⟩ := ih
    refine ⟨?_, ?_, ?_, ?_⟩
    · show upd ((sp_cpy S n k).1 0) (24 * n + k) ((sp_cpy S n k).1 0 (192 + k)) = upd (cp1 (S.1 0) n k) (24 * n + k) (cp1 (S.1 0) n k (192 + k))
      rw [i0]
    · show upd ((sp_cpy S n k).1 1) (24 * n + k) ((sp_cpy S n k).1 1 (192 + k)) = upd (cp1 (S.1 1) n k) (24 * n + k) (cp1 (S.1 1) n k (192 + k))
      rw [i1]
    · show upd ((sp_cpy S n k).1 2) (24 * n + k) ((sp_cpy S n k).1 2 (192 + k)) = upd (cp1 (S.1 2) n k) (24 * n + k) (cp1 (S.1 2) n k (192 + k))
      rw [i2]
    · show upd ((sp_cpy S n k).1 3) (24 * n + k) ((sp_cpy S n k).1 3 (192 + k)) = upd (cp1 (S.1 3) n k) (24 * n + k) (cp1 (S.1 3) n k (192 + k))
      rw [i3]
theorem cp1_v (f : Nat → Int32) {n k : Nat} (hn : n < 8) (hk : k ≤ 24) (i : Nat) : cp1 f n k i = if 24 * n ≤ i ∧ i < 24 * n + k then f (192 + (i - 24 * n)) else f i := by
  induction k generalizing i with
  | zero => exact (if_neg (fun q => by omega)).symm
  | succ k ih =>
    have ih := fun i => ih (by omega) i
    show upd (cp1 f n k) (24 * n + k) (cp1 f n k (192 + k)) i = _
    by_cases e : i = 24 * n + k
    · subst e
      rw [pk_us, ih, if_neg (fun q => by omega), if_pos ⟨by omega, by omega⟩, show 24 * n + k - 24 * n = k by omega]
    · rw [pk_un e, ih]
      by_cases q : 24 * n ≤ i ∧ i < 24 * n + k
      · rw [if_pos q, if_pos ⟨q.1, by omega⟩]
      · rw [if_neg q, if_neg (fun z => by omega)]
theorem cp1_p {p : Int32 → Prop} {f : Nat → Int32} {n k : Nat} (h : ∀ i, p (f i)) (i : Nat) : p (cp1 f n k i) := by
  induction k generalizing i with
  | zero => exact h i
  | succ k ih =>
    show p (upd (cp1 f n k) (24 * n + k) (cp1 f n k (192 + k)) i)
    by_cases e : i = 24 * n + k
    · rw [e, pk_us]; exact ih _
    · rw [pk_un e]; exact ih _
theorem sh_r : ∀ r, r < 11 → (1 : Int32) <<< (nI r &&& 31) = nI (2 ^ r) := by decide +kernel
theorem p2_10 : ∀ r, r < 11 → 2 ^ r ≤ 1024 := by decide +kernel
theorem wf_O.bat {S : rf_S} {n dr r : Nat} {c0 c1 c2 c3 : Int32} (h : wf_O S) (hd : dr ≤ 24) (hdr : S.1 4 0 = nI dr) (hr : r < 11) : wf_O (sp_batch1 (sp_cpy S n dr) n c0 c1 c2 c3 (nI r)) := by
  obtain ⟨⟨h1, h2, h3⟩, h4, h5⟩ := h
  obtain ⟨k0, k1, k2, k3⟩ := cpy_1 S n dr
  have kk := sp_cpy_kp S n dr
  refine ⟨⟨fun k => ?_, fun k => ?_, fun b => ?_⟩, fun k => ?_, fun b => ?_⟩
  · show ∃ a, a < 16 ∧ (sp_cpy S n dr).1 1 k = nI a
    rw [k1]
    exact cp1_p (p := fun z => ∃ a, a < 16 ∧ z = nI a) h1 k
  · show ∃ a, a < 16 ∧ (sp_cpy S n dr).1 2 k = nI a
    rw [k2]
    exact cp1_p (p := fun z => ∃ a, a < 16 ∧ z = nI a) h2 k
  · show ∃ m, m ≤ 24 ∧ upd ((sp_cpy S n dr).1 6) n ((sp_cpy S n dr).1 4 0) b = nI m
    rw [kk.1 6 (by decide), kk.1 4 (by decide), hdr]
    by_cases e : b = n
    · rw [e, pk_us]; exact ⟨dr, hd, rfl⟩
    · rw [pk_un e]; exact h3 b
  · show op8 ((sp_cpy S n dr).1 0 k) ∨ (sp_cpy S n dr).1 0 k = 9
    rw [k0]
    exact cp1_p (p := fun z => op8 z ∨ z = 9) h4 k
  · show ∃ m : Nat, m ≤ 1024 ∧ upd ((sp_cpy S n dr).1 8) n (1 <<< (nI r &&& 31)) b = nI m
    rw [kk.1 8 (by decide)]
    by_cases e : b = n
    · rw [e, pk_us, sh_r r hr]; exact ⟨2 ^ r, p2_10 r hr, rfl⟩
    · rw [pk_un e]; exact h5 b
def hBat (h : mj_H) (nx pa nb : Nat) (st c0 c1 c2 c3 : Int32) (fb : Nat → Option Nat) (d0 d8 : List Value) : mj_H :=
  mj_so (mj_so (mj_sr (mj_so (mj_so (mj_sr (mj_si (mj_so (mj_si (mj_so h 0 nx d0) (nx + 1) 4 (fun _ => 0)) 0 nx (oBat pa st (nx + 1))) (nx + 1) 4 (upd (upd (upd (upd (fun _ => 0) 0 c0) 1 c1) 2 c2) 3 c3)) 0 1 8 (va_up fb nb (some nx))) 9 0 [.ref 1, .int (nI nb + 1), .ref pa, .ref 4, .ref 7, .ref 17]) 8 (nx + 2) d8) 4 (nx + 3) 24 (fun _ => none)) 8 (nx + 2) (oPrg (nx + 3) 0)) 9 0 [.ref 1, .int (nI nb + 1), .ref (nx + 2), .ref 4, .ref 7, .ref 17]
section HB
variable {h : mj_H} {nx pa nb : Nat} {st c0 c1 c2 c3 : Int32} {fb : Nat → Option Nat} {d0 d8 : List Value}
theorem hBat_fB : fB h (hBat h nx pa nb st c0 c1 c2 c3 fb d0 d8) nx := ((((((((((fB.rf h nx).so (Or.inl rfl)).si (by omega)).so (Or.inl rfl)).si (by omega)).sr (Or.inl rfl)).so (Or.inr (Or.inr (Or.inr rfl)))).so (Or.inr (Or.inr (Or.inl rfl)))).sr (Or.inr rfl)).so (Or.inr (Or.inr (Or.inl rfl)))).so (Or.inr (Or.inr (Or.inr rfl)))
theorem hBat_0 : (hBat h nx pa nb st c0 c1 c2 c3 fb d0 d8).1 0 nx = some (oBat pa st (nx + 1)) := so_self (h := mj_si (mj_so h 0 nx d0) (nx + 1) 4 (fun _ => 0)) (ci := 0) (a := nx)
theorem hBat_0n {i : Nat} (hi : i ≠ nx) : (hBat h nx pa nb st c0 c1 c2 c3 fb d0 d8).1 0 i = h.1 0 i := (so_ne (h := mj_si (mj_so h 0 nx d0) (nx + 1) 4 (fun _ => 0)) (ci := 0) (a := nx) (b := i) (x := oBat pa st (nx + 1)) hi).trans (so_ne (h := h) (ci := 0) (a := nx) (b := i) (x := d0) hi)
theorem hBat_f : (hBat h nx pa nb st c0 c1 c2 c3 fb d0 d8).2.1 (nx + 1) = some (4, upd (upd (upd (upd (fun _ => 0) 0 c0) 1 c1) 2 c2) 3 c3) := si_self (h := mj_so (mj_si (mj_so h 0 nx d0) (nx + 1) 4 (fun _ => 0)) 0 nx (oBat pa st (nx + 1))) (a := nx + 1) (n := 4) (f := upd (upd (upd (upd (fun _ => 0) 0 c0) 1 c1) 2 c2) 3 c3)
theorem hBat_8 : (hBat h nx pa nb st c0 c1 c2 c3 fb d0 d8).1 8 (nx + 2) = some (oPrg (nx + 3) 0) := by
  show (mj_so _ 8 (nx + 2) (oPrg (nx + 3) 0)).1 8 (nx + 2) = _
  exact so_self
theorem hBat_8n {i : Nat} (hi : i ≠ nx + 2) : (hBat h nx pa nb st c0 c1 c2 c3 fb d0 d8).1 8 i = h.1 8 i := by
  show (mj_so (mj_so _ 8 (nx + 2) d8) 8 (nx + 2) (oPrg (nx + 3) 0)).1 8 i = _
  rw [so_so, so_ne hi]
  exact rfl
theorem hBat_4 : (hBat h nx pa nb st c0 c1 c2 c3 fb d0 d8).2.2.2 4 (nx + 3) = some (24, fun _ => none) := by
  show (mj_sr _ 4 (nx + 3) 24 (fun _ => none)).2.2.2 4 (nx + 3) = _
  exact sr_self
theorem hBat_4n {i : Nat} (hi : i ≠ nx + 3) : (hBat h nx pa nb st c0 c1 c2 c3 fb d0 d8).2.2.2 4 i = h.2.2.2 4 i := by
  show (mj_sr _ 4 (nx + 3) 24 (fun _ => none)).2.2.2 4 i = _
  rw [sr_ne hi]
  exact rfl
end HB
theorem i4_v (a b c d : Int32) (g : Nat → Int32) (n j : Nat) (hj : j < 4) : upd (upd (upd (upd (fun _ => 0) 0 a) 1 b) 2 c) 3 d j = upd (upd (upd (upd g (4 * n) a) (4 * n + 1) b) (4 * n + 2) c) (4 * n + 3) d (4 * n + j) := by
  match j, hj with
  | 0, _ => show a = _; rw [pk_un (by omega), pk_un (by omega), pk_un (by omega), show 4 * n + 0 = 4 * n from rfl, pk_us]
  | 1, _ => show b = _; rw [pk_un (by omega), pk_un (by omega), pk_us]
  | 2, _ => show c = _; rw [pk_un (by omega), pk_us]
  | 3, _ => show d = _; rw [pk_us]
theorem iB.bat {h : mj_H} {S : rf_S} {nx nb dr pa la r : Nat} {c0 c1 c2 c3 : Int32} {fb : Nat → Option Nat} {d0 d8 : List Value} (h52 : 52 ≤ nx) (hn8 : nb < 8) (hnb : S.1 5 0 = nI nb) (hdr : S.1 4 0 = nI dr) (hd : cPq h nx pa la (sp_D S) dr) (hbs : ∀ b, b < nb → cBa h S nx pa la b (fb b)) : iB (hBat h nx pa nb (1 <<< (nI r &&& 31)) c0 c1 c2 c3 fb d0 d8) (sp_batch1 (sp_cpy S nb dr) nb c0 c1 c2 c3 (nI r)) (nx + 4) (nb + 1) 0 := by
  have hd24 := hd.1
  have dp := hd.2.2.1
  have dl := hd.2.2.2.1
  obtain ⟨k0, k1, k2, k3⟩ := cpy_1 S nb dr
  have kk := sp_cpy_kp S nb dr
  have e6 : (sp_batch1 (sp_cpy S nb dr) nb c0 c1 c2 c3 (nI r)).1 6 = upd (S.1 6) nb (nI dr) := by
    show upd ((sp_cpy S nb dr).1 6) nb ((sp_cpy S nb dr).1 4 0) = _
    rw [kk.1 6 (by decide), kk.1 4 (by decide), hdr]
  have e7 : (sp_batch1 (sp_cpy S nb dr) nb c0 c1 c2 c3 (nI r)).1 7 = upd (upd (upd (upd (S.1 7) (4 * nb) c0) (4 * nb + 1) c1) (4 * nb + 2) c2) (4 * nb + 3) c3 := by
    show upd (upd (upd (upd ((sp_cpy S nb dr).1 7) (4 * nb) c0) (4 * nb + 1) c1) (4 * nb + 2) c2) (4 * nb + 3) c3 = _
    rw [kk.1 7 (by decide)]
  have e8 : (sp_batch1 (sp_cpy S nb dr) nb c0 c1 c2 c3 (nI r)).1 8 = upd (S.1 8) nb (1 <<< (nI r &&& 31)) := by
    show upd ((sp_cpy S nb dr).1 8) nb _ = _
    rw [kk.1 8 (by decide)]
  have eq0 : (sp_batch1 (sp_cpy S nb dr) nb c0 c1 c2 c3 (nI r)).1 0 = cp1 (S.1 0) nb dr := k0
  have eq1 : (sp_batch1 (sp_cpy S nb dr) nb c0 c1 c2 c3 (nI r)).1 1 = cp1 (S.1 1) nb dr := k1
  have eq2 : (sp_batch1 (sp_cpy S nb dr) nb c0 c1 c2 c3 (nI r)).1 2 = cp1 (S.1 2) nb dr := k2
  have eq3 : (sp_batch1 (sp_cpy S nb dr) nb c0 c1 c2 c3 (nI r)).1 3 = cp1 (S.1 3) nb dr := k3
  have e5 : (sp_batch1 (sp_cpy S nb dr) nb c0 c1 c2 c3 (nI r)).1 5 0 = nI (nb + 1) := by
    show (sp_cpy S nb dr).1 5 0 + 1 = _
    rw [kk.1 5 (by decide), hnb, nI_1]
  have e4 : (sp_batch1 (sp_cpy S nb dr) nb c0 c1 c2 c3 (nI r)).1 4 0 = nI 0 := rfl
  generalize sp_batch1 (sp_cpy S nb dr) nb c0 c1 c2 c3 (nI r) = V at *
  refine ⟨by omega, e5, e4, nx + 2, nx + 3, va_up fb nb (some nx), by unfold oTop; rw [← nI_1]; rfl, rfl, ⟨by omega, e4, by omega, by omega, hBat_8, fun _ => none, hBat_4, fun j hj => absurd hj (by omega)⟩, fun b hb => ?_⟩
  by_cases e : b = nb
  · subst e
    rw [vu_s]
    refine ⟨nx, pa, la, nx + 1, dr, _, rfl, by omega, by rw [e8, pk_us]; exact hBat_0, by omega, by omega, hBat_f, fun i hi => ?_, ?_, by omega, by omega⟩
    · rw [e7]
      exact i4_v _ _ _ _ _ _ _ hi
    · refine (hd.fr (by omega) (hBat_8n (by omega)) (hBat_4n (by omega)) (fun i hi => rfl)).ext ?_ (fun j hj => ?_)
      · show V.1 6 b = S.1 4 0
        rw [e6, pk_us, hdr]
      · show V.1 0 (24 * b + j) = S.1 0 (192 + j) ∧ V.1 1 (24 * b + j) = S.1 1 (192 + j) ∧ V.1 2 (24 * b + j) = S.1 2 (192 + j) ∧ V.1 3 (24 * b + j) = S.1 3 (192 + j)
        rw [eq0, eq1, eq2, eq3, cp1_v _ hn8 hd24, cp1_v _ hn8 hd24, cp1_v _ hn8 hd24, cp1_v _ hn8 hd24]
        have q : 24 * b ≤ 24 * b + j ∧ 24 * b + j < 24 * b + dr := ⟨by omega, by omega⟩
        rw [if_pos q, if_pos q, if_pos q, if_pos q, show 24 * b + j - 24 * b = j by omega]
        exact ⟨rfl, rfl, rfl, rfl⟩
  · rw [vu_n e]
    refine (hbs b (by omega)).fr (by omega) (fun i hi => hBat_0n (by omega)) (fun i _ hi => hBat_fB.2.1 i hi) (fun i hi _ => hBat_8n (by omega)) (fun i hi _ => hBat_4n (by omega)) (fun i hi => rfl) (by rw [e8, pk_un e]) (fun i hi => ?_) (by rw [e6, pk_un e]) (fun q j hq hj => ?_) (fun i hi _ => by omega) (fun i hi _ => by omega)
    · rw [e7, pk_un (by omega), pk_un (by omega), pk_un (by omega), pk_un (by omega)]
    · match q, hq with
      | 0, _ => rw [eq0, cp1_v _ hn8 hd24, if_neg (fun z => by omega)]
      | 1, _ => rw [eq1, cp1_v _ hn8 hd24, if_neg (fun z => by omega)]
      | 2, _ => rw [eq2, cp1_v _ hn8 hd24, if_neg (fun z => by omega)]
      | 3, _ => rw [eq3, cp1_v _ hn8 hd24, if_neg (fun z => by omega)]
set_option maxRecDepth 20000 in
set_option maxHeartbeats 4000000 in
theorem K_Top_batch (h : mj_H) (S : rf_S) (nx nb dr : Nat) (c0 c1 c2 c3 r : Int32) (h52 : 52 ≤ nx) (hi : iB h S nx nb dr) (hw : wf_O S) : cKb me_Top_batch [.ref 0, .int c0, .int c1, .int c2, .int c3, .int r] h nx 4 33 (sp_batch S c0 c1 c2 c3 r) := by
  refine mj_K.of ok_Top_batch ck_Top_batch (Nat.le_of_ble_eq_true rfl) ?_
  obtain ⟨h8, hnb, hdr, pa, la, fb, ht, hfb, hd, hbs⟩ := id hi
  have hd24 := hd.1
  have d8 := hd.2.2.2.2.1
  by_cases q0 : ¬ S.1 4 0 = 0 ∧ (0 ≤ r ∧ r ≤ 10) ∧ ¬ S.1 5 0 = 8
  · obtain ⟨d0, ⟨r1, r2⟩, b8⟩ := q0
    obtain ⟨rr, hrr, rfl⟩ := le_nat r1
    have hr10 : rr ≤ 10 := (nI_leI (a := rr) (b := 10) hrr (by omega)).mp r2
    have hn8 : nb < 8 := by
      rcases Nat.lt_or_ge nb 8 with z | z
      · exact z
      · exact absurd (hnb.trans (by rw [show nb = 8 by omega]; rfl)) b8
    have esp : sp_batch S c0 c1 c2 c3 (nI rr) = (nI nb + 1 - 1, sp_batch1 (sp_cpy S nb dr) nb c0 c1 c2 c3 (nI rr)) := by
      rw [sp_batch, if_pos ⟨d0, ⟨r1, r2⟩, b8⟩, hnb, hdr, nI_clamp (by omega), nI_clamp (by omega), nI_1, nI_pred]
    refine mj_r_pure rfl rfl ?_
    refine mj_r_getf rfl rfl ht rfl ?_
    refine mj_r_getf rfl rfl d8 rfl ?_
    refine mj_r_if_eq rfl (fun z1 => absurd z1 (fun q => d0 (hdr.trans q))) (fun z1 => ?_)
    refine mj_r_pure rfl rfl ?_
    refine mj_r_if_lt rfl (fun z2 => absurd z2 (nI_pos hrr)) (fun z2 => ?_)
    iterate 2 (refine mj_r_pure rfl rfl ?_)
    refine mj_r_icmp_gt rfl (fun z3 => absurd z3 (fun q => absurd r2 (lt_nle q))) (fun z3 => ?_)
    refine mj_r_pure rfl rfl ?_
    refine mj_r_getf rfl rfl ht rfl ?_
    refine mj_r_pure rfl rfl ?_
    refine mj_r_icmp_lt rfl (fun z4 => ?_) (fun z4 => absurd z4 (fun q => q (nI_lt (a := nb) (b := 8) hn8 (by omega))))
    refine mj_r_new (N := 3) rfl rfl rfl rfl ?_
    iterate 2 (refine mj_r_pure rfl rfl ?_)
    refine mj_r_getf rfl rfl ht rfl ?_
    iterate 3 (refine mj_r_pure rfl rfl ?_)
    refine mj_r_callI (kc := 2) (ks := 26) rfl li_Top_63 ck_Batch_init iv_Batch_init rfl rfl (by decide) ((K_Batch_init (mj_so h 0 nx _) nx pa (nx + 1) _ .null .null 0 so_self)) rfl rfl (Nat.le_of_ble_eq_true rfl) ?_
    rintro _ _ _ ⟨rfl, rfl, rfl⟩ _
    iterate 6 (refine mj_r_pure rfl rfl ?_)
    refine mj_r_cV0 (ci := 0)  rfl li_Top_66 ck_Batch_setFirst iv_Batch_setFirst (by decide) ((K_Batch_setFirst _ nx pa (nx + 1) (nx + 1 + 1) _ c0 c1 c2 c3 (fun _ => 0) so_self si_self)) rfl rfl (Nat.le_of_ble_eq_true rfl) rfl so_self ?_
    rintro _ _ _ ⟨rfl, rfl, rfl⟩ _
    refine mj_r_pure rfl rfl ?_
    refine mj_r_getf rfl rfl ht rfl ?_
    refine mj_r_pure rfl rfl ?_
    refine mj_r_getf rfl rfl ht rfl ?_
    refine mj_r_pure rfl rfl ?_
    refine cx_aast (ci := _) rfl hfb (so_self (h := mj_si (mj_so h 0 nx [.null, .int 0, .null]) (nx + 1) 4 (fun _ => 0)) (ci := 0) (a := nx) (x := oBat pa (1 <<< (nI rr &&& 31)) (nx + 1))) (by first | rfl | assumption) (by omega) ?_
    iterate 2 (refine mj_r_pure rfl rfl ?_)
    refine mj_r_getf rfl rfl ht rfl ?_
    iterate 2 (refine mj_r_pure rfl rfl ?_)
    refine mj_r_putf rfl rfl ht rfl (Or.inl rfl) rfl rfl ?_
    refine mj_r_pure rfl rfl ?_
    refine mj_r_new (N := 2) rfl rfl rfl rfl ?_
    refine mj_r_pure rfl rfl ?_
    refine mj_r_callIN (kc := 0) (ks := 0) rfl li_Top_21 ck_Program_init iv_Program_init rfl rfl (by decide) ((K_Program_init (mj_so _ 8 (nx + 2) _) (nx + 2) (nx + 3) .null 0 so_self)) rfl rfl (Nat.le_of_ble_eq_true rfl) ?_
    rintro _ _ _ ⟨rfl, rfl, rfl⟩ _
    refine mj_r_putf rfl rfl rfl rfl (Or.inl rfl) rfl rfl ?_
    refine mj_r_pure rfl rfl ?_
    refine mj_r_getf rfl rfl rfl rfl ?_
    iterate 2 (refine mj_r_pure rfl rfl ?_)
    exact mj_r_iret rfl rfl rfl ((cb esp ⟨by omega, by omega⟩ hBat_fB (hw.bat hd24 hdr (by omega)) (iB.bat (d0 := [.null, .int 0, .null]) (d8 := [.null, .int 0]) h52 hn8 hnb hdr hd hbs)))
  · have esp : sp_batch S c0 c1 c2 c3 r = (-1, S) := by rw [sp_batch, if_neg q0]
    have fin : some (Value.int (-1)) = some (.int (sp_batch S c0 c1 c2 c3 r).1) ∧ (nx ≤ nx ∧ nx ≤ nx + 4) ∧ fB h h nx ∧ wf_O (sp_batch S c0 c1 c2 c3 r).2 ∧ ∃ nb dr, iB h (sp_batch S c0 c1 c2 c3 r).2 nx nb dr := cb esp ⟨by omega, by omega⟩ (fB.rf _ nx) hw hi
    refine mj_r_pure rfl rfl ?_
    refine mj_r_getf rfl rfl ht rfl ?_
    refine mj_r_getf rfl rfl d8 rfl ?_
    refine mj_r_if_eq rfl (fun z1 => ?_) (fun z1 => ?_)
    · refine mj_r_pure rfl rfl ?_
      exact mj_r_iret rfl rfl rfl (fin)
    · refine mj_r_pure rfl rfl ?_
      refine mj_r_if_lt rfl (fun z2 => ?_) (fun z2 => ?_)
      · refine mj_r_pure rfl rfl ?_
        exact mj_r_iret rfl rfl rfl (fin)
      · iterate 2 (refine mj_r_pure rfl rfl ?_)
        refine mj_r_icmp_gt rfl (fun z3 => ?_) (fun z3 => ?_)
        · refine mj_r_pure rfl rfl ?_
          exact mj_r_iret rfl rfl rfl (fin)
        · refine mj_r_pure rfl rfl ?_
          refine mj_r_getf rfl rfl ht rfl ?_
          refine mj_r_pure rfl rfl ?_
          refine mj_r_icmp_lt rfl (fun z4 => ?_) (fun z4 => ?_)
          · exact absurd ⟨fun q => z1 (hdr.symm.trans q), ⟨nlt0_le z2, nlt_le z3⟩, fun q => absurd z4 (by rw [← hnb, q]; decide)⟩ q0
          · refine mj_r_pure rfl rfl ?_
            exact mj_r_iret rfl rfl rfl (fin)
