/-! the class: batches, and what asks for a state -/
/-- the draft -/
def sp_D (S : rf_S) : mP := (fun j => S.1 0 (192 + j), fun j => S.1 1 (192 + j), fun j => S.1 2 (192 + j), fun j => S.1 3 (192 + j), S.1 4 0)
/-- a program, where it lies -/
def cPq (h : mj_H) (nx p l : Nat) (P : mP) (n : Nat) : Prop := n ≤ 24 ∧ P.2.2.2.2 = nI n ∧ p < nx ∧ l < nx ∧ h.1 8 p = some (oPrg l (nI n)) ∧ ∃ f, h.2.2.2 4 l = some (24, f) ∧ ∀ j, j < n → ∃ i, i < nx ∧ f j = some i ∧ h.1 4 i = some (oIns (P.1 j) (P.2.1 j) (P.2.2.1 j) (P.2.2.2.1 j))
theorem cPq.pr {h : mj_H} {nx p l n : Nat} {P : mP} (q : cPq h nx p l P n) : cPr h p P n := by
  obtain ⟨a1, a2, a3, a4, a5, f, a6, a7⟩ := q
  exact ⟨a1, a2, l, f, a5, a6, fun j hj => by obtain ⟨i, b1, b2, b3⟩ := a7 j hj; exact ⟨i, b2, b3⟩⟩
abbrev oTop (nb pa : Nat) : List Value := [.ref 1, .int (nI nb), .ref pa, .ref 4, .ref 7, .ref 17]
/-- batch b lies at a -/
def cBa (h : mj_H) (S : rf_S) (nx pa la b : Nat) (x : Option Nat) : Prop := ∃ a p l fa n F, x = some a ∧ a < nx ∧ h.1 0 a = some (oBat p (S.1 8 b) fa) ∧ 52 ≤ fa ∧ fa < nx ∧ h.2.1 fa = some (4, F) ∧ (∀ i, i < 4 → F i = S.1 7 (4 * b + i)) ∧ cPq h nx p l (sp_P S b) n ∧ p ≠ pa ∧ l ≠ la
/-- programs and batches -/
def iB (h : mj_H) (S : rf_S) (nx nb dr : Nat) : Prop := nb ≤ 8 ∧ S.1 5 0 = nI nb ∧ S.1 4 0 = nI dr ∧ ∃ pa la fb, h.1 9 0 = some (oTop nb pa) ∧ h.2.2.2 0 1 = some (8, fb) ∧ cPq h nx pa la (sp_D S) dr ∧ ∀ b, b < nb → cBa h S nx pa la b (fb b)
/-- instructions are instructions -/
def wf_O (S : rf_S) : Prop := wf_P S ∧ (∀ k, op8 (S.1 0 k) ∨ S.1 0 k = 9) ∧ ∀ b, ∃ n : Nat, n ≤ 1024 ∧ S.1 8 b = nI n
theorem wf_O.op {S : rf_S} (h : wf_O S) (b : Nat) : m_op (sp_P S b) := fun k => h.2.1 _
/-- the machine is there -/
def iM (h : mj_H) : Prop := ∃ m nd, h.1 5 4 = some (oMch m) ∧ h.2.1 5 = some (16, m.1) ∧ h.2.2.1 6 = some (32, nd)
theorem iM.x (h : mj_H) (m : mS) (nd : Nat → Int64) : iM (cX h m nd) := ⟨m, nd, rfl, rfl, rfl⟩
theorem m_0_ag {F G : Nat → Int32} (h : ∀ i, i < 4 → F i = G i) : m_0 F = m_0 G := by
  unfold m_0
  refine Prod.ext ?_ rfl
  funext i
  dsimp only
  split
  · exact h i (by assumption)
  · rfl
set_option maxRecDepth 20000 in
set_option maxHeartbeats 4000000 in
theorem K_Top_batchAt_t (h : mj_H) (nx nb pa b a : Nat) (fb : Nat → Option Nat) (h8 : nb ≤ 8) (ht : h.1 9 0 = some (oTop nb pa)) (hb : h.2.2.2 0 1 = some (8, fb)) (hlt : b < nb) (hf : fb b = some a) : cK me_Top_batchAt [.ref 0, .int (nI b)] h nx (some (.ref a)) h := by
  refine mj_K.of ok_Top_batchAt ck_Top_batchAt (Nat.le_of_ble_eq_true rfl) ?_
  refine mj_r_pure rfl rfl ?_
  refine mj_r_if_lt rfl (fun c1 => absurd c1 (nI_pos (by omega))) (fun c1 => ?_)
  iterate 2 (refine mj_r_pure rfl rfl ?_)
  refine mj_r_getf rfl rfl ht rfl ?_
  refine mj_r_icmp_ge rfl (fun c2 => absurd c2 (nI_ge (by omega) (by omega))) (fun c2 => ?_)
  refine mj_r_pure rfl rfl ?_
  refine mj_r_getf rfl rfl ht rfl ?_
  refine mj_r_pure rfl rfl ?_
  refine cx_aald (ci := _) rfl hb (by first | rfl | assumption) (by omega) (rfv hf) ?_
  refine mj_r_pure rfl rfl ?_
  exact mj_r_aret rfl rfl ⟨rfl, rfl, rfl⟩
set_option maxRecDepth 20000 in
set_option maxHeartbeats 4000000 in
theorem K_Top_batchAt_f (h : mj_H) (nx nb pa : Nat) (x : Int32) (ht : h.1 9 0 = some (oTop nb pa)) (hx : ¬ isN x (nI nb)) : cK me_Top_batchAt [.ref 0, .int x] h nx (some .null) h := by
  refine mj_K.of ok_Top_batchAt ck_Top_batchAt (Nat.le_of_ble_eq_true rfl) ?_
  refine mj_r_pure rfl rfl ?_
  refine mj_r_if_lt rfl (fun c1 => ?_) (fun c1 => ?_)
  · refine mj_r_pure rfl rfl ?_
    exact mj_r_aretN rfl rfl ⟨rfl, rfl, rfl⟩
  · iterate 2 (refine mj_r_pure rfl rfl ?_)
    refine mj_r_getf rfl rfl ht rfl ?_
    refine mj_r_icmp_ge rfl (fun c2 => ?_) (fun c2 => ?_)
    · refine mj_r_pure rfl rfl ?_
      exact mj_r_aretN rfl rfl ⟨rfl, rfl, rfl⟩
    · exact absurd ⟨nlt0_le c1, nge_lt c2⟩ hx
set_option maxRecDepth 20000 in
set_option maxHeartbeats 4000000 in
theorem K_Top_reach_f (h : mj_H) (S : rf_S) (nx nb dr : Nat) (b s : Int32) (hi : iB h S nx nb dr) (hv : ¬ sp_vs S b s) : cK me_Top_reach [.ref 0, .int b, .int s] h nx (some (.int 0)) h := by
  refine mj_K.of ok_Top_reach ck_Top_reach (Nat.le_of_ble_eq_true rfl) ?_
  obtain ⟨h8, hnb, hdr, pa, la, fb, ht, hfb, hd, hbs⟩ := hi
  by_cases c : isN b (S.1 5 0)
  · obtain ⟨j, hj, rfl⟩ := isN_nat (n := nb) (by omega) (by rw [← hnb]; exact c)
    obtain ⟨a, p, l, fa, n, F, hf, g1, g2, -⟩ := hbs j hj
    iterate 2 (refine mj_r_pure rfl rfl ?_)
    refine mj_r_cV0 (ci := 9)  rfl li_Top_94 ck_Top_batchAt iv_Top_batchAt (by decide) ((K_Top_batchAt_t h nx nb pa j a fb h8 ht hfb hj hf)) rfl rfl (Nat.le_of_ble_eq_true rfl) rfl ht ?_
    rintro _ _ _ ⟨rfl, rfl, rfl⟩ _
    iterate 2 (refine mj_r_pure rfl rfl ?_)
    refine mj_r_pure rfl rfl ?_
    refine mj_r_pure rfl rfl ?_
    refine mj_r_if_lt rfl (fun c1 => ?_) (fun c1 => ?_)
    · refine mj_r_pure rfl rfl ?_
      exact mj_r_iret rfl rfl rfl ⟨rfl, rfl, rfl⟩
    · iterate 2 (refine mj_r_pure rfl rfl ?_)
      refine mj_r_getf rfl rfl g2 rfl ?_
      refine mj_r_icmp_le rfl (fun c2 => ?_) (fun c2 => ?_)
      · exact absurd ⟨c, nlt0_le c1, by rw [nI_clamp (by omega)]; exact c2⟩ hv
      · refine mj_r_pure rfl rfl ?_
        exact mj_r_iret rfl rfl rfl ⟨rfl, rfl, rfl⟩
  · iterate 2 (refine mj_r_pure rfl rfl ?_)
    refine mj_r_cV0 (ci := 9)  rfl li_Top_94 ck_Top_batchAt iv_Top_batchAt (by decide) ((K_Top_batchAt_f h nx nb pa b ht (by rw [← hnb]; exact c))) rfl rfl (Nat.le_of_ble_eq_true rfl) rfl ht ?_
    rintro _ _ _ ⟨rfl, rfl, rfl⟩ _
    iterate 2 (refine mj_r_pure rfl rfl ?_)
    refine mj_r_pure rfl rfl ?_
    refine mj_r_pure rfl rfl ?_
    exact mj_r_iret rfl rfl rfl ⟨rfl, rfl, rfl⟩
set_option maxRecDepth 20000 in
set_option maxHeartbeats 4000000 in
theorem K_Top_reach_t (h : mj_H) (S : rf_S) (nx nb dr b n : Nat) (m : mS) (nd : Nat → Int64) (hi : iB h S nx nb dr) (hw : wf_O S) (hb : b < nb) (hn : n < 2 ^ 31) (hs : nI n ≤ S.1 8 b) : mj_K me_Top_reach [.ref 0, .int (nI b), .int (nI n)] (cX h m nd) nx 0 0 (fun r h' nx' => r = some (.int 1) ∧ nx = nx' ∧ ∃ m', h' = cX h m' nd ∧ m_ag m' (sp_M S b n)) := by
  refine mj_K.of ok_Top_reach ck_Top_reach (Nat.le_of_ble_eq_true rfl) ?_
  obtain ⟨h8, hnb, hdr, pa, la, fb, ht, hfb, hd, hbs⟩ := hi
  obtain ⟨a, p, l, fa, len, F, hf, g1, g2, g3, g4, g5, g6, g7, -⟩ := hbs b hb
  iterate 2 (refine mj_r_pure rfl rfl ?_)
  refine mj_r_cV0 (ci := 9)  rfl li_Top_94 ck_Top_batchAt iv_Top_batchAt (by decide) ((K_Top_batchAt_t (cX h m nd) nx nb pa b a fb h8 ht hfb hb hf)) rfl rfl (Nat.le_of_ble_eq_true rfl) rfl (show (cX h m nd).1 9 0 = some _ from ht) ?_
  rintro _ _ _ ⟨rfl, rfl, rfl⟩ _
  iterate 2 (refine mj_r_pure rfl rfl ?_)
  refine mj_r_pure rfl rfl ?_
  refine mj_r_pure rfl rfl ?_
  refine mj_r_if_lt rfl (fun c1 => absurd c1 (nI_pos hn)) (fun c1 => ?_)
  iterate 2 (refine mj_r_pure rfl rfl ?_)
  refine mj_r_getf rfl rfl g2 rfl ?_
  refine mj_r_icmp_le rfl (fun c2 => ?_) (fun c2 => absurd c2 (fun q => q hs))
  refine mj_r_pure rfl rfl ?_
  refine mj_r_getf rfl rfl ht rfl ?_
  iterate 2 (refine mj_r_pure rfl rfl ?_)
  refine mj_r_cV0 (ci := 5)  rfl li_Top_111 ck_Machine_run iv_Machine_run (by decide) (K_Machine_run h nx a p fa len n _ (sp_P S b) F m nd g2 g5 (by omega) g7.pr (hw.1.ok b) (hw.op b) hn) rfl rfl (Nat.le_of_ble_eq_true rfl) rfl rfl ?_
  rintro _ _ _ ⟨rfl, rfl, m1, rfl, hm1⟩ _
  refine mj_r_pure rfl rfl ?_
  exact mj_r_iret rfl rfl rfl ⟨rfl, rfl, m1, rfl, by rw [m_0_ag g6] at hm1; exact hm1⟩
set_option maxRecDepth 20000 in
set_option maxHeartbeats 4000000 in
theorem K_Top_truth (h : mj_H) (S : rf_S) (nx nb dr : Nat) (b s : Int32) (hi : iB h S nx nb dr) (hw : wf_O S) (hm : iM h) : mj_K me_Top_truth [.ref 0, .int b, .int s] h nx 0 0 (fun r h' nx' => r = some (.long (sp_truth S b s)) ∧ nx = nx' ∧ ∃ m nd, h' = cX h m nd) := by
  obtain ⟨m0, nd0, q1, q2, q3⟩ := hm
  have eh := cX_id q1 q2 q3
  refine mj_K.of ok_Top_truth ck_Top_truth (Nat.le_of_ble_eq_true rfl) ?_
  obtain ⟨h8, hnb, hdr, pa, la, fb, ht, hfb, hd, hbs⟩ := id hi
  by_cases c : sp_vs S b s
  · have e : sp_truth S b s = m_dig (sp_M S b.toNatClampNeg s.toNatClampNeg) := if_pos c
    rw [e]
    obtain ⟨bb, n, g1, g2, rfl, rfl, g5, g6, g7⟩ := sp_vs_nat hnb h8 c
    rw [g6, g7]
    rw [show mj_W me_Top_truth 0 _ _ h = mj_W me_Top_truth 0 _ _ (cX h m0 nd0) by rw [eh]]
    iterate 3 (refine mj_r_pure rfl rfl ?_)
    refine mj_r_cV0 (ci := 9)  rfl li_Top_69 ck_Top_reach iv_Top_reach (by decide) ((K_Top_reach_t h S nx nb dr bb n m0 nd0 hi hw g1 g2 g5)) rfl rfl (Nat.le_of_ble_eq_true rfl) rfl (show (cX h m0 nd0).1 9 0 = some _ from ht) ?_
    rintro _ _ _ ⟨rfl, rfl, m, rfl, hm⟩ _
    refine mj_r_if_eq rfl (fun c1 => absurd c1 (by decide)) (fun c1 => ?_)
    refine mj_r_pure rfl rfl ?_
    refine mj_r_getf rfl rfl ht rfl ?_
    refine mj_r_cV0 (ci := 5)  rfl li_Top_73 ck_Machine_digestOfTree iv_Machine_digestOfTree (by decide) (K_Machine_digestOfTree h nx m nd0) rfl rfl (Nat.le_of_ble_eq_true rfl) rfl rfl ?_
    rintro _ _ _ ⟨rfl, rfl, nd, rfl⟩ _
    refine mj_r_pure rfl rfl ?_
    exact mj_r_lret rfl rfl ⟨by rw [m_dig_ag hm], rfl, m, nd, rfl⟩
  · have e : sp_truth S b s = 0 := if_neg c
    rw [e]
    iterate 3 (refine mj_r_pure rfl rfl ?_)
    refine mj_r_cV0 (ci := 9)  rfl li_Top_69 ck_Top_reach iv_Top_reach (by decide) ((K_Top_reach_f h S nx nb dr b s hi c)) rfl rfl (Nat.le_of_ble_eq_true rfl) rfl ht ?_
    rintro _ _ _ ⟨rfl, rfl, rfl⟩ _
    refine mj_r_if_eq rfl (fun c1 => ?_) (fun c1 => absurd c1 (fun q => q rfl))
    refine mj_r_pure rfl rfl ?_
    exact mj_r_lret rfl rfl ⟨rfl, rfl, m0, nd0, eh.symm⟩
set_option maxRecDepth 20000 in
set_option maxHeartbeats 4000000 in
theorem K_Top_state (h : mj_H) (S : rf_S) (nx nb dr : Nat) (b s w : Int32) (hi : iB h S nx nb dr) (hw : wf_O S) (hm : iM h) : mj_K me_Top_state [.ref 0, .int b, .int s, .int w] h nx 0 0 (fun r h' nx' => r = some (.int (sp_state S b s w)) ∧ nx = nx' ∧ ∃ m nd, h' = cX h m nd) := by
  obtain ⟨m0, nd0, q1, q2, q3⟩ := hm
  have eh := cX_id q1 q2 q3
  refine mj_K.of ok_Top_state ck_Top_state (Nat.le_of_ble_eq_true rfl) ?_
  obtain ⟨h8, hnb, hdr, pa, la, fb, ht, hfb, hd, hbs⟩ := id hi
  by_cases c : sp_vs S b s ∧ 0 ≤ w ∧ w ≤ 17
  · rw [show sp_state S b s w = _ from if_pos c]
    obtain ⟨bb, n, g1, g2, rfl, rfl, g5, g6, g7⟩ := sp_vs_nat hnb h8 c.1
    obtain ⟨w, hw2, rfl⟩ := le_nat c.2.1
    have hw17 : w ≤ 17 := (nI_leI (a := w) (b := 17) hw2 (by omega)).mp c.2.2
    rw [g6, g7]
    rw [show mj_W me_Top_state 0 _ _ h = mj_W me_Top_state 0 _ _ (cX h m0 nd0) by rw [eh]]
    by_cases w16 : w < 16
    · rw [if_pos (show nI w < 16 from nI_lt (a := w) (b := 16) w16 (by omega)), nI_clamp (by omega)]
      refine mj_r_pure rfl rfl ?_
      refine mj_r_if_lt rfl (fun c1 => absurd c1 (nI_pos hw2)) (fun c1 => ?_)
      iterate 2 (refine mj_r_pure rfl rfl ?_)
      refine mj_r_icmp_gt rfl (fun c2 => absurd c2 ((fun q => absurd q (by rw [Int32.not_lt]; exact nI_le (a := w) (b := 17) hw17 (by omega))))) (fun c2 => ?_)
      iterate 3 (refine mj_r_pure rfl rfl ?_)
      refine mj_r_cV0 (ci := 9)  rfl li_Top_69 ck_Top_reach iv_Top_reach (by decide) ((K_Top_reach_t h S nx nb dr bb n m0 nd0 hi hw g1 g2 g5)) rfl rfl (Nat.le_of_ble_eq_true rfl) rfl (show (cX h m0 nd0).1 9 0 = some _ from ht) ?_
      rintro _ _ _ ⟨rfl, rfl, m, rfl, hm⟩ _
      refine mj_r_if_ne rfl (fun c3 => ?_) (fun c3 => absurd c3 (by decide))
      iterate 2 (refine mj_r_pure rfl rfl ?_)
      refine mj_r_icmp_ne rfl (fun c4 => ?_) (fun c4 => absurd c4 (fun z => by have := (nI_eq (a := w) (b := 16) (by omega) (by omega)).mp z; omega))
      iterate 2 (refine mj_r_pure rfl rfl ?_)
      refine mj_r_icmp_ne rfl (fun c5 => ?_) (fun c5 => absurd c5 (fun z => by have := (nI_eq (a := w) (b := 17) (by omega) (by omega)).mp z; omega))
      refine mj_r_pure rfl rfl ?_
      refine mj_r_getf rfl rfl ht rfl ?_
      refine mj_r_getf rfl rfl rfl rfl ?_
      refine mj_r_pure rfl rfl ?_
      refine cx_iald rfl rfl (by first | rfl | assumption) (by omega) ?_
      exact mj_r_iret rfl rfl rfl ⟨by rw [← hm.1 w w16], rfl, m, nd0, rfl⟩
    · rw [if_neg (show ¬ nI w < 16 from nI_nlt (a := w) (b := 16) (by omega) (by omega))]
      by_cases w17 : w = 16
      · subst w17
        rw [if_pos (show nI 16 = 16 from rfl)]
        refine mj_r_pure rfl rfl ?_
        refine mj_r_if_lt rfl (fun c1 => absurd c1 (nI_pos hw2)) (fun c1 => ?_)
        iterate 2 (refine mj_r_pure rfl rfl ?_)
        refine mj_r_icmp_gt rfl (fun c2 => absurd c2 ((by decide +kernel))) (fun c2 => ?_)
        iterate 3 (refine mj_r_pure rfl rfl ?_)
        refine mj_r_cV0 (ci := 9)  rfl li_Top_69 ck_Top_reach iv_Top_reach (by decide) ((K_Top_reach_t h S nx nb dr bb n m0 nd0 hi hw g1 g2 g5)) rfl rfl (Nat.le_of_ble_eq_true rfl) rfl (show (cX h m0 nd0).1 9 0 = some _ from ht) ?_
        rintro _ _ _ ⟨rfl, rfl, m, rfl, hm⟩ _
        refine mj_r_if_ne rfl (fun c3 => ?_) (fun c3 => absurd c3 (by decide))
        iterate 2 (refine mj_r_pure rfl rfl ?_)
        refine mj_r_icmp_ne rfl (fun c4 => absurd c4 (fun q => q rfl)) (fun c4 => ?_)
        refine mj_r_pure rfl rfl ?_
        refine mj_r_getf rfl rfl ht rfl ?_
        refine mj_r_getf rfl rfl rfl rfl ?_
        exact mj_r_iret rfl rfl rfl ⟨by rw [← hm.2.1], rfl, m, nd0, rfl⟩
      · have : w = 17 := by omega
        subst this
        rw [if_neg (by decide +kernel)]
        refine mj_r_pure rfl rfl ?_
        refine mj_r_if_lt rfl (fun c1 => absurd c1 (nI_pos hw2)) (fun c1 => ?_)
        iterate 2 (refine mj_r_pure rfl rfl ?_)
        refine mj_r_icmp_gt rfl (fun c2 => absurd c2 ((by decide +kernel))) (fun c2 => ?_)
        iterate 3 (refine mj_r_pure rfl rfl ?_)
        refine mj_r_cV0 (ci := 9)  rfl li_Top_69 ck_Top_reach iv_Top_reach (by decide) ((K_Top_reach_t h S nx nb dr bb n m0 nd0 hi hw g1 g2 g5)) rfl rfl (Nat.le_of_ble_eq_true rfl) rfl (show (cX h m0 nd0).1 9 0 = some _ from ht) ?_
        rintro _ _ _ ⟨rfl, rfl, m, rfl, hm⟩ _
        refine mj_r_if_ne rfl (fun c3 => ?_) (fun c3 => absurd c3 (by decide))
        iterate 2 (refine mj_r_pure rfl rfl ?_)
        refine mj_r_icmp_ne rfl (fun c4 => ?_) (fun c4 => absurd c4 (by decide +kernel))
        iterate 2 (refine mj_r_pure rfl rfl ?_)
        refine mj_r_icmp_ne rfl (fun c5 => absurd c5 (fun q => q rfl)) (fun c5 => ?_)
        refine mj_r_pure rfl rfl ?_
        refine mj_r_getf rfl rfl ht rfl ?_
        refine mj_r_getf rfl rfl rfl rfl ?_
        refine mj_r_pure rfl rfl ?_
        exact mj_r_iret rfl rfl rfl ⟨by rw [← hm.2.2], rfl, m, nd0, rfl⟩
  · rw [show sp_state S b s w = 0 from if_neg c]
    by_cases cv : sp_vs S b s
    · refine mj_r_pure rfl rfl ?_
      refine mj_r_if_lt rfl (fun c1 => ?_) (fun c1 => ?_)
      · refine mj_r_pure rfl rfl ?_
        exact mj_r_iret rfl rfl rfl ⟨rfl, rfl, m0, nd0, eh.symm⟩
      · iterate 2 (refine mj_r_pure rfl rfl ?_)
        refine mj_r_icmp_gt rfl (fun c2 => ?_) (fun c2 => ?_)
        · refine mj_r_pure rfl rfl ?_
          exact mj_r_iret rfl rfl rfl ⟨rfl, rfl, m0, nd0, eh.symm⟩
        · exact absurd ⟨cv, nlt0_le c1, nlt_le c2⟩ c
    · refine mj_r_pure rfl rfl ?_
      refine mj_r_if_lt rfl (fun c1 => ?_) (fun c1 => ?_)
      · refine mj_r_pure rfl rfl ?_
        exact mj_r_iret rfl rfl rfl ⟨rfl, rfl, m0, nd0, eh.symm⟩
      · iterate 2 (refine mj_r_pure rfl rfl ?_)
        refine mj_r_icmp_gt rfl (fun c2 => ?_) (fun c2 => ?_)
        · refine mj_r_pure rfl rfl ?_
          exact mj_r_iret rfl rfl rfl ⟨rfl, rfl, m0, nd0, eh.symm⟩
        · iterate 3 (refine mj_r_pure rfl rfl ?_)
          refine mj_r_cV0 (ci := 9)  rfl li_Top_69 ck_Top_reach iv_Top_reach (by decide) ((K_Top_reach_f h S nx nb dr b s hi cv)) rfl rfl (Nat.le_of_ble_eq_true rfl) rfl ht ?_
          rintro _ _ _ ⟨rfl, rfl, rfl⟩ _
          refine mj_r_if_ne rfl (fun c3 => absurd c3 (fun q => q rfl)) (fun c3 => ?_)
          refine mj_r_pure rfl rfl ?_
          exact mj_r_iret rfl rfl rfl ⟨rfl, rfl, m0, nd0, eh.symm⟩
set_option maxRecDepth 20000 in
set_option maxHeartbeats 4000000 in
theorem K_Top_node (h : mj_H) (S : rf_S) (nx nb dr : Nat) (b s i : Int32) (hi : iB h S nx nb dr) (hw : wf_O S) (hm : iM h) : mj_K me_Top_node [.ref 0, .int b, .int s, .int i] h nx 0 0 (fun r h' nx' => r = some (.long (sp_node S b s i)) ∧ nx = nx' ∧ ∃ m nd, h' = cX h m nd) := by
  obtain ⟨m0, nd0, q1, q2, q3⟩ := hm
  have eh := cX_id q1 q2 q3
  refine mj_K.of ok_Top_node ck_Top_node (Nat.le_of_ble_eq_true rfl) ?_
  obtain ⟨h8, hnb, hdr, pa, la, fb, ht, hfb, hd, hbs⟩ := id hi
  by_cases c : sp_vs S b s ∧ 1 ≤ i ∧ i ≤ 31
  · rw [show sp_node S b s i = _ from if_pos c]
    obtain ⟨bb, n, g1, g2, rfl, rfl, g5, g6, g7⟩ := sp_vs_nat hnb h8 c.1
    obtain ⟨w, hw2, rfl⟩ := le_nat (s := i) (by have := c.2.1; rw [Int32.le_iff_toInt_le] at this ⊢; exact Int.le_trans (by decide) this)
    have hw31 : w ≤ 31 := (nI_leI (a := w) (b := 31) hw2 (by omega)).mp c.2.2
    have hw1 : 1 ≤ w := (nI_leI (a := 1) (b := w) (by omega) hw2).mp c.2.1
    rw [g6, g7, nI_clamp (by omega)]
    rw [show mj_W me_Top_node 0 _ _ h = mj_W me_Top_node 0 _ _ (cX h m0 nd0) by rw [eh]]
    iterate 2 (refine mj_r_pure rfl rfl ?_)
    refine mj_r_icmp_lt rfl (fun c1 => absurd c1 (nI_nlt (a := w) (b := 1) (by omega) (by omega))) (fun c1 => ?_)
    iterate 2 (refine mj_r_pure rfl rfl ?_)
    refine mj_r_icmp_ge rfl (fun c2 => absurd c2 (nI_ge (a := w) (b := 32) (by omega) (by omega))) (fun c2 => ?_)
    iterate 3 (refine mj_r_pure rfl rfl ?_)
    refine mj_r_cV0 (ci := 9)  rfl li_Top_69 ck_Top_reach iv_Top_reach (by decide) ((K_Top_reach_t h S nx nb dr bb n m0 nd0 hi hw g1 g2 g5)) rfl rfl (Nat.le_of_ble_eq_true rfl) rfl (show (cX h m0 nd0).1 9 0 = some _ from ht) ?_
    rintro _ _ _ ⟨rfl, rfl, m, rfl, hm⟩ _
    refine mj_r_if_ne rfl (fun c3 => ?_) (fun c3 => absurd c3 (by decide))
    refine mj_r_pure rfl rfl ?_
    refine mj_r_getf rfl rfl ht rfl ?_
    refine mj_r_cV0 (ci := 5)  rfl li_Top_87 ck_Machine_growTree iv_Machine_growTree (by decide) (K_Machine_growTree h nx m nd0) rfl rfl (Nat.le_of_ble_eq_true rfl) rfl rfl ?_
    rintro _ _ _ ⟨rfl, rfl, nd, rfl, hnd⟩ _
    refine mj_r_pure rfl rfl ?_
    refine mj_r_getf rfl rfl ht rfl ?_
    refine mj_r_getf rfl rfl rfl rfl ?_
    refine mj_r_pure rfl rfl ?_
    refine cx_lald rfl rfl (by first | rfl | assumption) (by omega) ?_
    exact mj_r_lret rfl rfl ⟨by rw [hnd w hw1 (by omega), t_n_ag hm.1 hw1 (by omega)], rfl, m, nd, rfl⟩
  · rw [show sp_node S b s i = 0 from if_neg c]
    by_cases cv : sp_vs S b s
    · iterate 2 (refine mj_r_pure rfl rfl ?_)
      refine mj_r_icmp_lt rfl (fun c1 => ?_) (fun c1 => ?_)
      · refine mj_r_pure rfl rfl ?_
        exact mj_r_lret rfl rfl ⟨rfl, rfl, m0, nd0, eh.symm⟩
      · iterate 2 (refine mj_r_pure rfl rfl ?_)
        refine mj_r_icmp_ge rfl (fun c2 => ?_) (fun c2 => ?_)
        · refine mj_r_pure rfl rfl ?_
          exact mj_r_lret rfl rfl ⟨rfl, rfl, m0, nd0, eh.symm⟩
        · exact absurd ⟨cv, nlt_le c1, by have := nge_lt c2; rw [Int32.lt_iff_toInt_lt] at this; rw [Int32.le_iff_toInt_le]; exact Int.le_of_lt_add_one this⟩ c
    · iterate 2 (refine mj_r_pure rfl rfl ?_)
      refine mj_r_icmp_lt rfl (fun c1 => ?_) (fun c1 => ?_)
      · refine mj_r_pure rfl rfl ?_
        exact mj_r_lret rfl rfl ⟨rfl, rfl, m0, nd0, eh.symm⟩
      · iterate 2 (refine mj_r_pure rfl rfl ?_)
        refine mj_r_icmp_ge rfl (fun c2 => ?_) (fun c2 => ?_)
        · refine mj_r_pure rfl rfl ?_
          exact mj_r_lret rfl rfl ⟨rfl, rfl, m0, nd0, eh.symm⟩
        · iterate 3 (refine mj_r_pure rfl rfl ?_)
          refine mj_r_cV0 (ci := 9)  rfl li_Top_69 ck_Top_reach iv_Top_reach (by decide) ((K_Top_reach_f h S nx nb dr b s hi cv)) rfl rfl (Nat.le_of_ble_eq_true rfl) rfl ht ?_
          rintro _ _ _ ⟨rfl, rfl, rfl⟩ _
          refine mj_r_if_ne rfl (fun c3 => absurd c3 (fun q => q rfl)) (fun c3 => ?_)
          refine mj_r_pure rfl rfl ?_
          exact mj_r_lret rfl rfl ⟨rfl, rfl, m0, nd0, eh.symm⟩
