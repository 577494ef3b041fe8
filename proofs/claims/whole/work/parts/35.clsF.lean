/-! the class: the paper -/
abbrev oPap (pl : Int32) (ro : Int64) (n : Int32) : List Value := [.int pl, .long ro, .int n, .ref 8]
/-- the paper is there -/
def iPa (h : mj_H) (S : rf_S) (n : Nat) : Prop := wf_Q S n ∧ h.1 7 7 = some (oPap (S.1 34 0) (S.2 35 0) (nI n)) ∧ (∃ f, h.2.2.2 6 8 = some (4, f) ∧ ∀ i, i < 4 → f i = some (9 + 2 * i)) ∧ ∀ i, i < 4 → h.1 6 (9 + 2 * i) = some (oOn (S.1 37 i) (S.1 38 i) (10 + 2 * i)) ∧ ∃ w, h.2.2.1 (10 + 2 * i) = some (4, w) ∧ ∀ j, j < 4 → w j = S.2 39 (4 * i + j)
def oR : Option Nat → Value
  | some j => .ref (9 + 2 * j)
  | none => .null
theorem up_ag {num : Nat} {v : Int32} {w w' : Nat → Int64} (n : Nat) (h : ∀ j, j < n → w j = w' j) : up_v num v w n = up_v num v w' n := by
  induction n with
  | zero => rfl
  | succ n ih =>
    unfold up_v
    rw [ih (fun j hj => h j (by omega)), h n (by omega)]
section CPA
variable {h : mj_H} {S : rf_S} {n nx : Nat} (hp : iPa h S n)
theorem K_rootAt (h : mj_H) (S : rf_S) (n nx i : Nat) (v : Int32) (hp : iPa h S n) (hi : i < 4) : cK me_OnPaper_rootWith [.ref (9 + 2 * i), .int v] h nx (some (.long (sp_up S i v))) h := by
  obtain ⟨⟨hn, h4, hnum⟩, h7, h8, ho⟩ := hp
  obtain ⟨num, k1, k2⟩ := hnum i
  obtain ⟨o1, w, o2, o3⟩ := ho i hi
  rw [k2] at o1
  have e : sp_up S i v = up_v num v w 4 := by
    rw [sp_up, k2, nI_clamp (by omega)]
    exact up_ag 4 (fun j hj => (o3 j hj).symm)
  rw [e]
  exact K_OnPaper_rootWith h (9 + 2 * i) (10 + 2 * i) num nx v _ w o1 o2 k1
set_option maxRecDepth 20000 in
set_option maxHeartbeats 4000000 in
theorem K_Paper_find (h : mj_H) (S : rf_S) (n nx : Nat) (k : Int32) (hp : iPa h S n) : cK me_Paper_find [.ref 7, .int k] h nx (some (oR (sp_on S k n))) h := by
  obtain ⟨⟨hn, h4, hnum⟩, h7, ⟨f, h8, hf⟩, ho⟩ := hp
  refine mj_K.of ok_Paper_find ck_Paper_find (Nat.le_of_ble_eq_true rfl) ?_
  have go : ∀ (d i : Nat), i + d = n → mj_W me_Paper_find 2 [(0, .ref 7), (1, .int k), (2, .int (nI i))] [] h mj_0 nx 0 0 (fun _ => True, fun r h' _ nx' => r = some (oR (fnd (fun i => decide (S.1 37 i = k)) d i)) ∧ h' = h ∧ nx = nx') := by
    intro d
    induction d with
    | zero =>
      intro i hi
      have e : i = n := by omega
      subst e
      iterate 2 (refine mj_r_pure rfl rfl ?_)
      refine mj_r_getf rfl rfl h7 rfl ?_
      refine mj_r_icmp_ge rfl (fun c1 => ?_) (fun c1 => absurd c1 (fun q => q (nI_le (Nat.le_refl _) (by omega))))
      refine mj_r_pure rfl rfl ?_
      exact mj_r_aretN rfl rfl ⟨rfl, rfl, rfl⟩
    | succ d ih =>
      intro i hi
      have e := ih (i + 1) (by omega)
      have o1 := (ho i (by omega)).1
      unfold fnd
      iterate 2 (refine mj_r_pure rfl rfl ?_)
      refine mj_r_getf rfl rfl h7 rfl ?_
      refine mj_r_icmp_ge rfl (fun c1 => absurd c1 (nI_ge (by omega) (by omega))) (fun c1 => ?_)
      refine mj_r_pure rfl rfl ?_
      refine mj_r_getf rfl rfl h7 rfl ?_
      refine mj_r_pure rfl rfl ?_
      refine cx_aald (ci := _) rfl h8 (by first | rfl | assumption) (by omega) (rfv (hf i (by omega))) ?_
      iterate 2 (refine mj_r_pure rfl rfl ?_)
      refine mj_r_pure rfl rfl ?_
      refine mj_r_pure rfl rfl ?_
      refine mj_r_getf rfl rfl o1 rfl ?_
      refine mj_r_pure rfl rfl ?_
      refine mj_r_icmp_ne rfl (fun c2 => ?_) (fun c2 => ?_)
      · iterate 2 (refine mj_r_pure rfl rfl ?_)
        rw [nI_1]; rw [if_neg (by simp [c2])]; exact mj_W.fewer [0, 1, 2] rfl e
      · refine mj_r_pure rfl rfl ?_
        exact mj_r_aret rfl rfl ⟨by rw [if_pos (by simp [c2])]; rfl, rfl, rfl⟩
  iterate 2 (refine mj_r_pure rfl rfl ?_)
  exact go n 0 (by omega)
set_option maxRecDepth 20000 in
set_option maxHeartbeats 4000000 in
theorem K_Paper_all (h : mj_H) (S : rf_S) (n nx : Nat) (hp : iPa h S n) : cK me_Paper_allWaysEndAtRoot [.ref 7] h nx (some (.int (bI (allB (sp_way S) n = true)))) h := by
  obtain ⟨⟨hn, h4, hnum⟩, h7, ⟨f, h8, hf⟩, ho⟩ := id hp
  refine mj_K.of ok_Paper_allWaysEndAtRoot ck_Paper_allWaysEndAtRoot (Nat.le_of_ble_eq_true rfl) ?_
  have go : ∀ (d i : Nat), i + d = n → (∀ j, j < i → sp_way S j = true) → mj_W me_Paper_allWaysEndAtRoot 2 [(0, .ref 7), (1, .int (nI i))] [] h mj_0 nx 0 0 (fun _ => True, fun r h' _ nx' => r = some (.int (bI (allB (sp_way S) n = true))) ∧ h' = h ∧ nx = nx') := by
    intro d
    induction d with
    | zero =>
      intro i hi hw
      have e : i = n := by omega
      subst e
      iterate 2 (refine mj_r_pure rfl rfl ?_)
      refine mj_r_getf rfl rfl h7 rfl ?_
      refine mj_r_icmp_ge rfl (fun c1 => ?_) (fun c1 => absurd c1 (fun q => q (nI_le (Nat.le_refl _) (by omega))))
      refine mj_r_pure rfl rfl ?_
      exact mj_r_iret rfl rfl rfl ⟨by rw [bI_t (allB_t.mpr hw)], rfl, rfl⟩
    | succ d ih =>
      intro i hi hw
      have o1 := (ho i (by omega)).1
      iterate 2 (refine mj_r_pure rfl rfl ?_)
      refine mj_r_getf rfl rfl h7 rfl ?_
      refine mj_r_icmp_ge rfl (fun c1 => absurd c1 (nI_ge (by omega) (by omega))) (fun c1 => ?_)
      refine mj_r_pure rfl rfl ?_
      refine mj_r_getf rfl rfl h7 rfl ?_
      refine mj_r_pure rfl rfl ?_
      refine cx_aald (ci := _) rfl h8 (by first | rfl | assumption) (by omega) (rfv (hf i (by omega))) ?_
      iterate 2 (refine mj_r_pure rfl rfl ?_)
      refine mj_r_pure rfl rfl ?_
      iterate 2 (refine mj_r_pure rfl rfl ?_)
      refine mj_r_getf rfl rfl o1 rfl ?_
      refine mj_r_cV0 (ci := 6)  rfl li_Paper_75 ck_OnPaper_rootWith iv_OnPaper_rootWith (by decide) ((K_rootAt h S n nx i _ hp (by omega))) rfl rfl (Nat.le_of_ble_eq_true rfl) rfl o1 ?_
      rintro _ _ _ ⟨rfl, rfl, rfl⟩ _
      refine mj_r_pure rfl rfl ?_
      refine mj_r_getf rfl rfl h7 rfl ?_
      refine mj_r_pure rfl rfl ?_
      refine mj_r_if_eq rfl (fun c2 => ?_) (fun c2 => ?_)
      · iterate 2 (refine mj_r_pure rfl rfl ?_)
        rw [nI_1]; refine mj_W.fewer [0, 1] rfl ?_; exact ih (i + 1) (by omega) (fun j hj => by by_cases e : j = i; (subst e; exact decide_eq_true (lg0.mp c2)); exact hw j (by omega))
      · refine mj_r_pure rfl rfl ?_
        exact mj_r_iret rfl rfl rfl ⟨by rw [bI_f (fun q => c2 (lg0.mpr (of_decide_eq_true (allB_t.mp q i (by omega)))))], rfl, rfl⟩
  iterate 2 (refine mj_r_pure rfl rfl ?_)
  exact go n 0 (by omega) (fun j hj => absurd hj (by omega))
set_option maxRecDepth 20000 in
set_option maxHeartbeats 4000000 in
theorem K_Paper_rootBehind (h : mj_H) (S : rf_S) (n nx i ja jb jt : Nat) (op a b c : Int32) (hp : iPa h S n) (ho : h.1 4 i = some (oIns op a b c)) (hop : op8 op ∨ op = 9) (ha : ja < 4) (hb : jb < 4) (ht : jt < 4) : cK me_Paper_rootBehind [.ref 7, .ref i, .ref (9 + 2 * ja), .ref (9 + 2 * jb), .ref (9 + 2 * jt)] h nx (some (.long (if op = 9 then S.2 35 0 else sp_up S (if op = 8 then jt else ja) (sp_val op (S.1 38 ja) (S.1 38 jb) c (S.1 38 jt))))) h := by
  obtain ⟨⟨hn, h4, hnum⟩, h7, ⟨f, h8, hf⟩, hoo⟩ := id hp
  refine mj_K.of ok_Paper_rootBehind ck_Paper_rootBehind (Nat.le_of_ble_eq_true rfl) ?_
  have e1 := (hoo ja ha).1
  have e2 := (hoo jb hb).1
  have e3 := (hoo jt ht).1
  refine mj_r_pure rfl rfl ?_
  refine mj_r_cV0 (ci := 4)  rfl li_Paper_79 ck_Instruction_writes iv_Instruction_writes (by decide) (K_Instruction_writes h i nx op a b c ho) rfl rfl (Nat.le_of_ble_eq_true rfl) rfl ho ?_
  rintro _ _ _ ⟨rfl, rfl, rfl⟩ _
  refine mj_r_if_ne rfl (fun c1 => ?_) (fun c1 => ?_)
  · have c9 : ¬ op = 9 := fun q => c1 (by rw [bI_f (fun z => z q)])
    refine mj_r_pure rfl rfl ?_
    refine mj_r_getf rfl rfl ho rfl ?_
    refine mj_r_pure rfl rfl ?_
    refine mj_r_icmp_ne rfl (fun c2 => ?_) (fun c2 => ?_)
    · iterate 5 (refine mj_r_pure rfl rfl ?_)
      refine mj_r_getf rfl rfl e1 rfl ?_
      refine mj_r_pure rfl rfl ?_
      refine mj_r_getf rfl rfl e2 rfl ?_
      refine mj_r_pure rfl rfl ?_
      refine mj_r_getf rfl rfl e3 rfl ?_
      refine mj_r_cV0 (ci := 4)  rfl li_Paper_85 ck_Instruction_result iv_Instruction_result (by decide) (K_Instruction_result _ i nx op a b c _ _ _ ho (hop.resolve_right c9)) rfl rfl (Nat.le_of_ble_eq_true rfl) rfl ho ?_
      rintro _ _ _ ⟨rfl, rfl, rfl⟩ _
      refine mj_r_cV0 (ci := 6)  rfl li_Paper_75 ck_OnPaper_rootWith iv_OnPaper_rootWith (by decide) ((K_rootAt _ S n nx ja _ hp ha)) rfl rfl (Nat.le_of_ble_eq_true rfl) rfl e1 ?_
      rintro _ _ _ ⟨rfl, rfl, rfl⟩ _
      exact mj_r_lret rfl rfl ⟨by rw [if_neg c9, if_neg c2], rfl, rfl⟩
    · iterate 6 (refine mj_r_pure rfl rfl ?_)
      refine mj_r_getf rfl rfl e1 rfl ?_
      refine mj_r_pure rfl rfl ?_
      refine mj_r_getf rfl rfl e2 rfl ?_
      refine mj_r_pure rfl rfl ?_
      refine mj_r_getf rfl rfl e3 rfl ?_
      refine mj_r_cV0 (ci := 4)  rfl li_Paper_85 ck_Instruction_result iv_Instruction_result (by decide) (K_Instruction_result _ i nx op a b c _ _ _ ho (hop.resolve_right c9)) rfl rfl (Nat.le_of_ble_eq_true rfl) rfl ho ?_
      rintro _ _ _ ⟨rfl, rfl, rfl⟩ _
      refine mj_r_cV0 (ci := 6)  rfl li_Paper_75 ck_OnPaper_rootWith iv_OnPaper_rootWith (by decide) ((K_rootAt _ S n nx jt _ hp ht)) rfl rfl (Nat.le_of_ble_eq_true rfl) rfl e3 ?_
      rintro _ _ _ ⟨rfl, rfl, rfl⟩ _
      exact mj_r_lret rfl rfl ⟨by rw [if_neg c9, if_pos c2], rfl, rfl⟩
  · refine mj_r_pure rfl rfl ?_
    refine mj_r_getf rfl rfl h7 rfl ?_
    exact mj_r_lret rfl rfl ⟨by rw [if_pos (Decidable.of_not_not (bI_0.mp c1))], rfl, rfl⟩
end CPA
/-- the class's judge finds what the document's does -/
theorem jd_has {S : rf_S} {k n ja jb jt : Nat} (oa : sp_on S (S.1 1 k) n = some ja) (ob : tw (S.1 0 k) → sp_on S (S.1 2 k) n = some jb) (ot : sp_on S (sp_told (S.1 0 k) (S.1 1 k) (S.1 38 ja) (S.1 38 jb)) n = some jt) : sp_has S k n := by
  refine ⟨⟨ja, oa⟩, fun q => ⟨jb, ob q⟩, fun q => ⟨jt, ?_⟩, fun q => ⟨jt, ?_⟩⟩
  · rw [sp_told, if_pos q] at ot
    rw [pv_some (ob ⟨by rw [q]; decide, by rw [q]; decide, by rw [q]; decide⟩)]
    exact ot
  · rw [sp_told, if_neg (by rw [q]; decide), if_pos q] at ot
    rw [pv_some oa]
    exact ot
theorem jd_jn {S : rf_S} {k n ja jb jt : Nat} (oa : sp_on S (S.1 1 k) n = some ja) (ob : tw (S.1 0 k) → sp_on S (S.1 2 k) n = some jb) (ot : sp_on S (sp_told (S.1 0 k) (S.1 1 k) (S.1 38 ja) (S.1 38 jb)) n = some jt) : sp_jn S k n = if S.1 0 k = 9 then S.2 35 0 else sp_up S (if S.1 0 k = 8 then jt else ja) (sp_val (S.1 0 k) (S.1 38 ja) (S.1 38 jb) (S.1 3 k) (S.1 38 jt)) := by
  unfold sp_jn sp_jw sp_jv
  by_cases c9 : S.1 0 k = 9
  · rw [if_pos c9, if_pos c9]
  · rw [if_neg c9, if_neg c9, pv_some oa]
    have ev : sp_val (S.1 0 k) (S.1 38 ja) (pv S n (S.1 2 k)) (S.1 3 k) (pv S n (pv S n (S.1 2 k) &&& 15)) = sp_val (S.1 0 k) (S.1 38 ja) (S.1 38 jb) (S.1 3 k) (S.1 38 jt) := by
      by_cases t0 : S.1 0 k = 0
      · exact sp_val_b (Or.inl t0)
      · by_cases t5 : S.1 0 k = 5
        · exact sp_val_b (Or.inr t5)
        · rw [pv_some (ob ⟨t0, t5, c9⟩)]
          by_cases t7 : S.1 0 k = 7
          · rw [sp_told, if_pos t7] at ot
            rw [pv_some ot]
          · exact sp_val_t t7
    rw [ev]
    by_cases c8 : S.1 0 k = 8
    · rw [sp_told, if_neg (by rw [c8]; decide), if_pos c8] at ot
      rw [if_pos c8, if_pos c8, ot]
      rfl
    · rw [if_neg c8, if_neg c8, oa]
      rfl
theorem jd_jb {S : rf_S} {k n ja : Nat} (oa : sp_on S (S.1 1 k) n = some ja) : sp_jb S k n = if S.1 0 k = 9 ∧ ¬ S.1 38 ja = 0 then S.1 3 k else S.1 34 0 + 1 := by
  unfold sp_jb
  rw [pv_some oa]
theorem jd_no {S : rf_S} {k n ja jb : Nat} (oa : sp_on S (S.1 1 k) n = some ja) (ob : tw (S.1 0 k) → sp_on S (S.1 2 k) n = some jb) (ot : sp_on S (sp_told (S.1 0 k) (S.1 1 k) (S.1 38 ja) (S.1 38 jb)) n = none) : ¬ sp_has S k n := by
  intro hh
  by_cases c7 : S.1 0 k = 7
  · obtain ⟨j, o⟩ := hh.2.2.1 c7
    rw [pv_some (ob ⟨by rw [c7]; decide, by rw [c7]; decide, by rw [c7]; decide⟩)] at o
    rw [sp_told, if_pos c7, o] at ot
    cases ot
  · by_cases c8 : S.1 0 k = 8
    · obtain ⟨j, o⟩ := hh.2.2.2 c8
      rw [pv_some oa] at o
      rw [sp_told, if_neg c7, if_pos c8, o] at ot
      cases ot
    · rw [sp_told, if_neg c7, if_neg c8, oa] at ot
      cases ot
