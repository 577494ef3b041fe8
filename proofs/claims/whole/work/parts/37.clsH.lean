/-! the class: what is written onto the paper -/
/-- only the paper changed -/
def fP (h h' : mj_H) : Prop := (∀ c, c ≠ 6 → c ≠ 7 → h'.1 c = h.1 c) ∧ h'.2.1 = h.2.1 ∧ h'.2.2.1 6 = h.2.2.1 6 ∧ h'.2.2.2 = h.2.2.2
theorem fP.rf (h : mj_H) : fP h h := ⟨fun _ _ _ => rfl, rfl, rfl, rfl⟩
theorem fP.tr {h h' h'' : mj_H} (a : fP h h') (b : fP h' h'') : fP h h'' := ⟨fun c h6 h7 => (b.1 c h6 h7).trans (a.1 c h6 h7), b.2.1.trans a.2.1, b.2.2.1.trans a.2.2.1, b.2.2.2.trans a.2.2.2⟩
theorem fP.so {h h' : mj_H} (a : fP h h') {ci q : Nat} {fs : List Value} (hc : ci = 6 ∨ ci = 7) : fP h (mj_so h' ci q fs) := ⟨fun c h6 h7 => by
  rw [← a.1 c h6 h7]
  funext z
  show (if c = ci then _ else h'.1 c z) = h'.1 c z
  rw [if_neg (by omega)], a.2.1, a.2.2.1, a.2.2.2⟩
theorem fP.sl {h h' : mj_H} (a : fP h h') {q n : Nat} {f : Nat → Int64} (hq : 6 ≠ q) : fP h (mj_sl h' q n f) := ⟨a.1, a.2.1, (sl_ne hq).trans a.2.2.1, a.2.2.2⟩
set_option maxRecDepth 20000 in
set_option maxHeartbeats 4000000 in
theorem K_Paper_begin (h : mj_H) (nx : Nat) (x : Int32) (y : Int64) (z pl : Int32) (ro : Int64) (h7 : h.1 7 7 = some (oPap x y z)) : cK me_Paper_begin [.ref 7, .int pl, .long ro] h nx none (mj_so h 7 7 (oPap pl ro 0)) := by
  refine mj_K.of ok_Paper_begin ck_Paper_begin (Nat.le_of_ble_eq_true rfl) ?_
  iterate 2 (refine mj_r_pure rfl rfl ?_)
  refine mj_r_putf rfl rfl h7 rfl (Or.inl rfl) rfl rfl ?_
  iterate 2 (refine mj_r_pure rfl rfl ?_)
  refine mj_r_putf rfl rfl so_self rfl (Or.inl rfl) rfl rfl ?_
  iterate 2 (refine mj_r_pure rfl rfl ?_)
  refine mj_r_putf rfl rfl so_self rfl (Or.inl rfl) rfl rfl ?_
  exact mj_r_ret rfl rfl ⟨rfl, by simp only [so_so], rfl⟩
theorem iPa.begin {h : mj_H} {S : rf_S} {n : Nat} (hp : iPa h S n) (pl : Int32) (ro : Int64) : iPa (mj_so h 7 7 (oPap pl ro 0)) (sp_paper S pl ro) 0 := by
  obtain ⟨⟨hn, h4, hnum⟩, h7, h8, ho⟩ := hp
  exact ⟨⟨rfl, by omega, hnum⟩, rfl, h8, ho⟩
set_option maxRecDepth 20000 in
set_option maxHeartbeats 4000000 in
theorem K_Paper_append_f (h : mj_H) (S : rf_S) (nx : Nat) (k v : Int32) (hp : iPa h S 4) : cK me_Paper_append [.ref 7, .int k, .int v] h nx (some .null) h := by
  obtain ⟨⟨hn, h4, hnum⟩, h7, ⟨f8, h8, hf8⟩, hoo⟩ := id hp
  refine mj_K.of ok_Paper_append ck_Paper_append (Nat.le_of_ble_eq_true rfl) ?_
  refine mj_r_pure rfl rfl ?_
  refine mj_r_getf rfl rfl h7 rfl ?_
  refine mj_r_pure rfl rfl ?_
  refine mj_r_icmp_ge rfl (fun c1 => ?_) (fun c1 => absurd c1 (fun q => q (nI_le (a := 4) (b := 4) (by omega) (by omega))))
  iterate 3 (refine mj_r_pure rfl rfl ?_)
  refine mj_r_pure rfl rfl ?_
  refine mj_r_pure rfl rfl ?_
  exact mj_r_aretN rfl rfl ⟨rfl, rfl, rfl⟩
def hCell (h : mj_H) (n : Nat) (k v pl : Int32) (ro : Int64) : mj_H := mj_so (mj_so h 6 (9 + 2 * n) (oOn k v (10 + 2 * n))) 7 7 (oPap pl ro (nI (n + 1)))
theorem hCell_at {h : mj_H} {n : Nat} {k v pl : Int32} {ro : Int64} : (hCell h n k v pl ro).1 6 (9 + 2 * n) = some (oOn k v (10 + 2 * n)) := so_self (h := h) (ci := 6) (a := 9 + 2 * n) (x := oOn k v (10 + 2 * n))
set_option maxRecDepth 20000 in
set_option maxHeartbeats 4000000 in
theorem K_Paper_append_t (h : mj_H) (S : rf_S) (n nx : Nat) (k v : Int32) (hp : iPa h S n) (hlt : n < 4) : cK me_Paper_append [.ref 7, .int k, .int v] h nx (some (.ref (9 + 2 * n))) (hCell h n k v (S.1 34 0) (S.2 35 0)) := by
  obtain ⟨⟨hn, h4, hnum⟩, h7, ⟨f8, h8, hf8⟩, hoo⟩ := id hp
  have o1 := (hoo n hlt).1
  refine mj_K.of ok_Paper_append ck_Paper_append (Nat.le_of_ble_eq_true rfl) ?_
  refine mj_r_pure rfl rfl ?_
  refine mj_r_getf rfl rfl h7 rfl ?_
  refine mj_r_pure rfl rfl ?_
  refine mj_r_icmp_ge rfl (fun c1 => absurd c1 (nI_ge (a := n) (b := 4) (by omega) (by omega))) (fun c1 => ?_)
  refine mj_r_pure rfl rfl ?_
  refine mj_r_getf rfl rfl h7 rfl ?_
  refine mj_r_pure rfl rfl ?_
  refine mj_r_getf rfl rfl h7 rfl ?_
  refine cx_aald (ci := _) rfl h8 (by first | rfl | assumption) (by omega) (rfv (hf8 n hlt)) ?_
  iterate 3 (refine mj_r_pure rfl rfl ?_)
  refine mj_r_pure rfl rfl ?_
  iterate 2 (refine mj_r_pure rfl rfl ?_)
  refine mj_r_putf rfl rfl o1 rfl (Or.inl rfl) rfl rfl ?_
  iterate 2 (refine mj_r_pure rfl rfl ?_)
  refine mj_r_putf rfl rfl so_self rfl (Or.inl rfl) rfl rfl ?_
  iterate 2 (refine mj_r_pure rfl rfl ?_)
  refine mj_r_getf rfl rfl h7 rfl ?_
  iterate 2 (refine mj_r_pure rfl rfl ?_)
  refine mj_r_putf rfl rfl h7 rfl (Or.inl rfl) rfl rfl ?_
  refine mj_r_pure rfl rfl ?_
  exact mj_r_aret rfl rfl ⟨rfl, by rw [so_so, nI_1]; rfl, rfl⟩
theorem w4_v (f : Nat → Int64) (a b c d : Int64) (g : Nat → Int64) (n j : Nat) (hj : j < 4) : w4 f a b c d j = vp_updL (vp_updL (vp_updL (vp_updL g (4 * n) a) (4 * n + 1) b) (4 * n + 2) c) (4 * n + 3) d (4 * n + j) := by
  match j, hj with
  | 0, _ => rw [pk_uLn (by omega), pk_uLn (by omega), pk_uLn (by omega), show 4 * n + 0 = 4 * n from rfl, pk_uLs]; rfl
  | 1, _ => rw [pk_uLn (by omega), pk_uLn (by omega), pk_uLs]; rfl
  | 2, _ => rw [pk_uLn (by omega), pk_uLs]; rfl
  | 3, _ => rw [pk_uLs]; rfl
theorem iPa.cell {h : mj_H} {S : rf_S} {n kk : Nat} (hp : iPa h S n) (hlt : n < 4) (hk : kk < 16) (v : Int32) (w1 w2 w3 w4' : Int64) (W : Nat → Int64) : iPa (mj_sl (hCell h n (nI kk) v (S.1 34 0) (S.2 35 0)) (10 + 2 * n) 4 (w4 W w1 w2 w3 w4')) (sp_cell1 S n (nI kk) v w1 w2 w3 w4') (n + 1) := by
  obtain ⟨⟨hn, h4, hnum⟩, h7, h8, ho⟩ := hp
  refine ⟨⟨?_, by omega, fun i => ?_⟩, rfl, h8, fun i hi => ?_⟩
  · show S.1 36 0 + 1 = nI (n + 1)
    rw [hn, nI_1]
  · show ∃ k, k < 16 ∧ upd (S.1 37) n (nI kk) i = nI k
    by_cases e : i = n
    · rw [e, pk_us]; exact ⟨kk, hk, rfl⟩
    · rw [pk_un e]; exact hnum i
  · show (mj_so h 6 (9 + 2 * n) (oOn (nI kk) v (10 + 2 * n))).1 6 (9 + 2 * i) = some (oOn (upd (S.1 37) n (nI kk) i) (upd (S.1 38) n v i) (10 + 2 * i)) ∧ ∃ w, (mj_sl h (10 + 2 * n) 4 (w4 W w1 w2 w3 w4')).2.2.1 (10 + 2 * i) = some (4, w) ∧ ∀ j, j < 4 → w j = vp_updL (vp_updL (vp_updL (vp_updL (S.2 39) (4 * n) w1) (4 * n + 1) w2) (4 * n + 2) w3) (4 * n + 3) w4' (4 * i + j)
    by_cases e : i = n
    · subst e
      rw [pk_us, pk_us, so_self, sl_self]
      exact ⟨rfl, _, rfl, fun j hj => w4_v _ _ _ _ _ _ _ _ hj⟩
    · rw [pk_un e, pk_un e, so_ne (by omega), sl_ne (by omega)]
      obtain ⟨o1, w, o2, o3⟩ := ho i hi
      refine ⟨o1, w, o2, fun j hj => ?_⟩
      rw [pk_uLn (by omega), pk_uLn (by omega), pk_uLn (by omega), pk_uLn (by omega)]
      exact o3 j hj
theorem fP.cell {h : mj_H} {n : Nat} {k v pl : Int32} {ro : Int64} {W : Nat → Int64} : fP h (mj_sl (hCell h n k v pl ro) (10 + 2 * n) 4 W) := (((fP.rf h).so (Or.inl rfl)).so (Or.inr rfl)).sl (by omega)
/-- what a call does to the paper -/
abbrev cKp (M : mj_M) (as : List Value) (h : mj_H) (nx : Nat) (P : Int32 × rf_S) : Prop := mj_K M as h nx 0 0 (fun r h' nx' => r = some (.int P.1) ∧ nx = nx' ∧ fP h h' ∧ ∃ n', iPa h' P.2 n')
theorem cp {P : Int32 × rf_S} {v : Int32} {S' : rf_S} {h h' : mj_H} {nx n' : Nat} (e : P = (v, S')) (f : fP h h') (i : iPa h' S' n') : some (Value.int v) = some (.int P.1) ∧ nx = nx ∧ fP h h' ∧ ∃ n', iPa h' P.2 n' := by subst e; exact ⟨rfl, rfl, f, n', i⟩
set_option maxRecDepth 20000 in
set_option maxHeartbeats 4000000 in
theorem K_Top_paper (h : mj_H) (S : rf_S) (nx n nb pa : Nat) (pl : Int32) (ro : Int64) (ht : h.1 9 0 = some (oTop nb pa)) (hp : iPa h S n) : cKp me_Top_paper [.ref 0, .int pl, .long ro] h nx (1, sp_paper S pl ro) := by
  refine mj_K.of ok_Top_paper ck_Top_paper (Nat.le_of_ble_eq_true rfl) ?_
  refine mj_r_pure rfl rfl ?_
  refine mj_r_getf rfl rfl ht rfl ?_
  iterate 2 (refine mj_r_pure rfl rfl ?_)
  refine mj_r_cV0 (ci := 7)  rfl li_Top_149 ck_Paper_begin iv_Paper_begin (by decide) ((K_Paper_begin _ nx _ _ _ pl ro hp.2.1)) rfl rfl (Nat.le_of_ble_eq_true rfl) rfl hp.2.1 ?_
  rintro _ _ _ ⟨rfl, rfl, rfl⟩ _
  refine mj_r_pure rfl rfl ?_
  exact mj_r_iret rfl rfl rfl ((cp rfl ((fP.rf _).so (Or.inr rfl)) (hp.begin pl ro)))
set_option maxRecDepth 20000 in
set_option maxHeartbeats 4000000 in
theorem K_Top_cell (h : mj_H) (S : rf_S) (nx n nb pa : Nat) (k v : Int32) (w1 w2 w3 w4' : Int64) (ht : h.1 9 0 = some (oTop nb pa)) (hp : iPa h S n) : cKp me_Top_cell [.ref 0, .int k, .int v, .long w1, .long w2, .long w3, .long w4'] h nx (sp_cell S k v w1 w2 w3 w4' n) := by
  refine mj_K.of ok_Top_cell ck_Top_cell (Nat.le_of_ble_eq_true rfl) ?_
  have hn := hp.1.1
  have h4 := hp.1.2.1
  by_cases a1 : isN k 16
  · obtain ⟨kk, hkk, rfl⟩ := isN_nat (n := 16) (by omega) a1
    rcases on_dec S (nI kk) n with o | ⟨j, hj, o⟩
    · have o2 : oR (sp_on S (nI kk) n) = .null := by rw [o]; rfl
      by_cases hlt : n < 4
      · obtain ⟨W, hW, -⟩ := (hp.2.2.2 n hlt).2
        refine mj_r_pure rfl rfl ?_
        refine mj_r_callS (kc := 0) (ks := 0) rfl li_Top_47 ck_Top_isCell iv_Top_isCell (by decide) rfl (K_Top_isCell _ _ nx) rfl rfl (Nat.le_of_ble_eq_true rfl) ?_
        rintro _ _ _ ⟨rfl, rfl, rfl⟩ _
        rw [bI_t a1]
        refine mj_r_if_eq rfl (fun c1 => absurd c1 (by decide)) (fun c1 => ?_)
        refine mj_r_pure rfl rfl ?_
        refine mj_r_getf rfl rfl ht rfl ?_
        refine mj_r_pure rfl rfl ?_
        refine mj_r_cV0 (ci := 7)  rfl li_Top_153 ck_Paper_find iv_Paper_find (by decide) ((K_Paper_find _ S n nx (nI kk) hp)) rfl rfl (Nat.le_of_ble_eq_true rfl) rfl hp.2.1 ?_
        rintro _ _ _ ⟨rfl, rfl, rfl⟩ _
        rw [o2]
        refine mj_r_pure rfl rfl ?_
        refine mj_r_pure rfl rfl ?_
        refine mj_r_getf rfl rfl ht rfl ?_
        iterate 2 (refine mj_r_pure rfl rfl ?_)
        refine mj_r_cV0 (ci := 7)  rfl li_Top_157 ck_Paper_append iv_Paper_append (by decide) ((K_Paper_append_t _ S n nx (nI kk) v hp hlt)) rfl rfl (Nat.le_of_ble_eq_true rfl) rfl hp.2.1 ?_
        rintro _ _ _ ⟨rfl, rfl, rfl⟩ _
        iterate 2 (refine mj_r_pure rfl rfl ?_)
        refine mj_r_pure rfl rfl ?_
        iterate 5 (refine mj_r_pure rfl rfl ?_)
        refine mj_r_cV0 (ci := 6)  rfl li_Top_160 ck_OnPaper_setBeside iv_OnPaper_setBeside (by decide) ((K_OnPaper_setBeside (hCell _ n (nI kk) v (S.1 34 0) (S.2 35 0)) (9 + 2 * n) (10 + 2 * n) nx (nI kk) v W w1 w2 w3 w4' hCell_at hW)) rfl rfl (Nat.le_of_ble_eq_true rfl) rfl hCell_at ?_
        rintro _ _ _ ⟨rfl, rfl, rfl⟩ _
        refine mj_r_pure rfl rfl ?_
        refine mj_r_getf rfl rfl ht rfl ?_
        refine mj_r_getf rfl rfl rfl rfl ?_
        exact mj_r_iret rfl rfl rfl ((cp (by rw [sp_cell, if_pos ⟨a1, o, fun q => by have := hn.symm.trans q; have := (nI_eq (a := n) (b := 4) (by omega) (by omega)).mp this; omega⟩, hn, nI_1]) fP.cell (hp.cell hlt hkk v w1 w2 w3 w4' W)))
      · have e4 : n = 4 := by omega
        subst e4
        refine mj_r_pure rfl rfl ?_
        refine mj_r_callS (kc := 0) (ks := 0) rfl li_Top_47 ck_Top_isCell iv_Top_isCell (by decide) rfl (K_Top_isCell _ _ nx) rfl rfl (Nat.le_of_ble_eq_true rfl) ?_
        rintro _ _ _ ⟨rfl, rfl, rfl⟩ _
        rw [bI_t a1]
        refine mj_r_if_eq rfl (fun c1 => absurd c1 (by decide)) (fun c1 => ?_)
        refine mj_r_pure rfl rfl ?_
        refine mj_r_getf rfl rfl ht rfl ?_
        refine mj_r_pure rfl rfl ?_
        refine mj_r_cV0 (ci := 7)  rfl li_Top_153 ck_Paper_find iv_Paper_find (by decide) ((K_Paper_find _ S 4 nx (nI kk) hp)) rfl rfl (Nat.le_of_ble_eq_true rfl) rfl hp.2.1 ?_
        rintro _ _ _ ⟨rfl, rfl, rfl⟩ _
        rw [o2]
        refine mj_r_pure rfl rfl ?_
        refine mj_r_pure rfl rfl ?_
        refine mj_r_getf rfl rfl ht rfl ?_
        iterate 2 (refine mj_r_pure rfl rfl ?_)
        refine mj_r_cV0 (ci := 7)  rfl li_Top_157 ck_Paper_append iv_Paper_append (by decide) ((K_Paper_append_f _ S nx (nI kk) v hp)) rfl rfl (Nat.le_of_ble_eq_true rfl) rfl hp.2.1 ?_
        rintro _ _ _ ⟨rfl, rfl, rfl⟩ _
        iterate 2 (refine mj_r_pure rfl rfl ?_)
        refine mj_r_pure rfl rfl ?_
        refine mj_r_pure rfl rfl ?_
        exact mj_r_iret rfl rfl rfl ((cp (by rw [sp_cell, if_neg (fun q => q.2.2 hn)]) (fP.rf _) hp))
    · have o2 : oR (sp_on S (nI kk) n) = .ref (9 + 2 * j) := by rw [o]; rfl
      refine mj_r_pure rfl rfl ?_
      refine mj_r_callS (kc := 0) (ks := 0) rfl li_Top_47 ck_Top_isCell iv_Top_isCell (by decide) rfl (K_Top_isCell _ _ nx) rfl rfl (Nat.le_of_ble_eq_true rfl) ?_
      rintro _ _ _ ⟨rfl, rfl, rfl⟩ _
      rw [bI_t a1]
      refine mj_r_if_eq rfl (fun c1 => absurd c1 (by decide)) (fun c1 => ?_)
      refine mj_r_pure rfl rfl ?_
      refine mj_r_getf rfl rfl ht rfl ?_
      refine mj_r_pure rfl rfl ?_
      refine mj_r_cV0 (ci := 7)  rfl li_Top_153 ck_Paper_find iv_Paper_find (by decide) ((K_Paper_find _ S n nx (nI kk) hp)) rfl rfl (Nat.le_of_ble_eq_true rfl) rfl hp.2.1 ?_
      rintro _ _ _ ⟨rfl, rfl, rfl⟩ _
      rw [o2]
      refine mj_r_pure rfl rfl ?_
      refine mj_r_pure rfl rfl ?_
      exact mj_r_iret rfl rfl rfl ((cp (by rw [sp_cell, if_neg (fun q => by have := q.2.1; rw [o] at this; cases this)]) (fP.rf _) hp))
  · refine mj_r_pure rfl rfl ?_
    refine mj_r_callS (kc := 0) (ks := 0) rfl li_Top_47 ck_Top_isCell iv_Top_isCell (by decide) rfl (K_Top_isCell _ _ nx) rfl rfl (Nat.le_of_ble_eq_true rfl) ?_
    rintro _ _ _ ⟨rfl, rfl, rfl⟩ _
    rw [bI_f a1]
    refine mj_r_if_eq rfl (fun c1 => ?_) (fun c1 => absurd c1 (fun q => q rfl))
    refine mj_r_pure rfl rfl ?_
    exact mj_r_iret rfl rfl rfl ((cp (by rw [sp_cell, if_neg (fun q => a1 q.1)]) (fP.rf _) hp))
set_option maxRecDepth 20000 in
set_option maxHeartbeats 4000000 in
theorem K_Top_judge (h : mj_H) (S : rf_S) (nx n nb dr : Nat) (b : Int32) (low high : Int64) (hi : iB h S nx nb dr) (hw : wf_O S) (hp : iPa h S n) : cK me_Top_judge [.ref 0, .int b, .long low, .long high] h nx (some (.int (if isN b (S.1 5 0) then sp_judge S b.toNatClampNeg low high n else -1))) h := by
  refine mj_K.of ok_Top_judge ck_Top_judge (Nat.le_of_ble_eq_true rfl) ?_
  obtain ⟨h8, hnb, hdr, pa, la, fb, ht, hfb, hd, hbs⟩ := id hi
  by_cases c : isN b (S.1 5 0)
  · rw [if_pos c]
    obtain ⟨j, hj, rfl⟩ := isN_nat (n := nb) (by omega) (by rw [← hnb]; exact c)
    obtain ⟨a, p, l, fa, ln, F, hf, g1, g2, g3, g4, g5, g6, g7, -⟩ := hbs j hj
    rw [nI_clamp (by omega)]
    iterate 2 (refine mj_r_pure rfl rfl ?_)
    refine mj_r_cV0 (ci := 9)  rfl li_Top_94 ck_Top_batchAt iv_Top_batchAt (by decide) ((K_Top_batchAt_t _ nx nb pa j a fb h8 ht hfb hj hf)) rfl rfl (Nat.le_of_ble_eq_true rfl) rfl ht ?_
    rintro _ _ _ ⟨rfl, rfl, rfl⟩ _
    iterate 2 (refine mj_r_pure rfl rfl ?_)
    refine mj_r_pure rfl rfl ?_
    refine mj_r_pure rfl rfl ?_
    refine mj_r_getf rfl rfl ht rfl ?_
    refine mj_r_pure rfl rfl ?_
    refine mj_r_getf rfl rfl g2 rfl ?_
    iterate 2 (refine mj_r_pure rfl rfl ?_)
    refine mj_r_cV0 (ci := 7)  rfl li_Top_186 ck_Paper_verdict iv_Paper_verdict (by decide) ((K_Paper_verdict _ S n nx p ln j low high hp g7.pr hw)) rfl rfl (Nat.le_of_ble_eq_true rfl) rfl hp.2.1 ?_
    rintro _ _ _ ⟨rfl, rfl, rfl⟩ _
    exact mj_r_iret rfl rfl rfl ⟨rfl, rfl, rfl⟩
  · rw [if_neg c]
    iterate 2 (refine mj_r_pure rfl rfl ?_)
    refine mj_r_cV0 (ci := 9)  rfl li_Top_94 ck_Top_batchAt iv_Top_batchAt (by decide) ((K_Top_batchAt_f _ nx nb pa b ht (by rw [← hnb]; exact c))) rfl rfl (Nat.le_of_ble_eq_true rfl) rfl ht ?_
    rintro _ _ _ ⟨rfl, rfl, rfl⟩ _
    iterate 2 (refine mj_r_pure rfl rfl ?_)
    refine mj_r_pure rfl rfl ?_
    iterate 2 (refine mj_r_pure rfl rfl ?_)
    exact mj_r_iret rfl rfl rfl ⟨rfl, rfl, rfl⟩
