/-! the reference: judge and prove -/
set_option maxRecDepth 20000 in
set_option maxHeartbeats 4000000 in
theorem rl_judge70_open (hrot : ∀ a c : Int32, sp_rotR a c = sp_rot a c) {Q : mj_post} {nx n bb : Nat} {low high : Int64} {S : rf_S} (hS : wf_P S) (hb8 : bb < 8) (hq : wf_Q S n) (hQ : ∀ r : Int32, r = (if ¬ isN (S.1 34 0) (S.1 6 bb) then (if low = high then 0 else 4) else if sp_hasB S (24 * bb + (S.1 34 0).toNatClampNeg) n = false then 3 else if sp_mix (sp_jn S (24 * bb + (S.1 34 0).toNatClampNeg) n) (sp_jb S (24 * bb + (S.1 34 0).toNatClampNeg) n).toInt64 = high then 0 else 4) → ∀ f, Q.2 (some (.int r)) (rf_h (sC S 9 f)) mj_0 nx) : mj_W me_Ref_judge 70 [(0, .ref 21), (1, .int (nI bb)), (2, .long low), (4, .long high)] [] (rf_h S) mj_0 nx 0 0 Q := by
  obtain ⟨hn, h4, hnum⟩ := hq
  have e9 : rf_h S = rf_h (sC S 9 (S.1 9)) := by rw [sC_self]
  obtain ⟨ln, hln, hln2⟩ := hS.2.2 bb
  by_cases c : isN (S.1 34 0) (S.1 6 bb)
  · obtain ⟨j, hj, hj2⟩ := isN_nat (n := ln) (by omega) (by rw [← hln2]; exact c)
    have eat : sp_at S bb (S.1 34 0) = nI (24 * bb + j) := by rw [sp_at, if_pos c, hj2, nI_add]
    obtain ⟨a0, ha, ha2⟩ := hS.1 (24 * bb + j)
    obtain ⟨b0, hb3, hb2⟩ := hS.2.1 (24 * bb + j)
    have hkj : 24 * bb + j < 216 := by omega
    have ejj : (S.1 34 0).toNatClampNeg = j := by rw [hj2, nI_clamp (by omega)]
    rw [if_neg (fun q => q c), ejj] at hQ
    by_cases hh : sp_has S (24 * bb + j) n
    · rw [if_neg (by rw [(sp_hasB_iff S _ n).mpr hh]; exact fun z => by cases z)] at hQ
      obtain ⟨⟨ja, oa⟩, g2, g7, g8⟩ := id hh
      by_cases c9 : S.1 0 (24 * bb + j) = 9
      · have ejn : sp_jn S (24 * bb + j) n = S.2 35 0 := by rw [sp_jn, if_pos c9]
        rw [ejn] at hQ
        iterate 3 (refine mj_r_pure rfl rfl ?_)
        refine rr_get rfl rfl rfl ?_
        refine mj_r_callV (ci := 10) (kc := 0) (ks := 0) rfl li_Ref_117 ck_Ref_at iv_Ref_at (by decide) rfl rfl (K_Ref_at S bb _ nx hb8) rfl rfl (Nat.le_of_ble_eq_true rfl) ?_
        rintro _ _ _ ⟨rfl, rfl, rfl⟩ _
        rw [eat]
        iterate 2 (refine mj_r_pure rfl rfl ?_)
        refine mj_r_if_ge rfl (fun z1 => ?_) (fun z1 => absurd z1 (fun q => q (nI_pos' (by omega))))
        iterate 2 (refine mj_r_pure rfl rfl ?_)
        refine mj_r_callV (ci := 10) (kc := 0) (ks := 0) rfl li_Ref_200 ck_Ref_hasCells iv_Ref_hasCells (by decide) rfl rfl ((K_Ref_has_t S (24 * bb + j) a0 b0 nx n hkj ha2 ha hb2 hb3 hn h4 hh)) rfl rfl (Nat.le_of_ble_eq_true rfl) ?_
        rintro _ _ _ ⟨rfl, rfl, f, rfl, hf⟩ _
        refine mj_r_if_ne rfl (fun z2 => ?_) (fun z2 => absurd z2 (by decide))
        iterate 2 (refine mj_r_pure rfl rfl ?_)
        refine mj_r_callV (ci := 10) (kc := 0) (ks := 0) rfl li_Ref_124 ck_Ref_written iv_Ref_written (by decide) rfl rfl (K_Ref_written (sC S 9 f) (24 * bb + j) a0 nx hkj ha2 ha) rfl rfl (Nat.le_of_ble_eq_true rfl) ?_
        rintro _ _ _ ⟨rfl, rfl, rfl⟩ _
        rw [show sp_written (sC S 9 f) (24 * bb + j) = -1 by rw [sp_written]; exact if_pos c9]
        iterate 2 (refine mj_r_pure rfl rfl ?_)
        refine mj_r_if_ge rfl (fun z3 => absurd z3 (m1_neg)) (fun z3 => ?_)
        refine mj_r_pure rfl rfl ?_
        refine rr_get rfl rfl rfl ?_
        iterate 6 (refine mj_r_pure rfl rfl ?_)
        refine rr_get rfl rfl rfl ?_
        refine mj_r_callV (ci := 10) (kc := 0) (ks := 0) rfl li_Ref_131 ck_Ref_placeBehind iv_Ref_placeBehind (by decide) rfl rfl (K_Ref_placeBehind (sC S 9 f) (24 * bb + j) a0 nx _ hkj ha2 ha) rfl rfl (Nat.le_of_ble_eq_true rfl) ?_
        rintro _ _ _ ⟨rfl, rfl, rfl⟩ _
        rw [show sp_behind (sC S 9 f) (24 * bb + j) ((sC S 9 f).1 34 0) = sp_jb S (24 * bb + j) n by show (if S.1 0 (24 * bb + j) = 9 ∧ ¬ f (S.1 1 (24 * bb + j)).toNatClampNeg = 0 then _ else _) = _; rw [hf.1]; rfl]
        refine mj_r_pure rfl rfl ?_
        refine mj_r_callS (kc := 0) (ks := 0) rfl li_Ref_144 ck_Ref_mix iv_Ref_mix (by decide) rfl (K_Ref_mix _ _ _ nx) rfl rfl (Nat.le_of_ble_eq_true rfl) ?_
        rintro _ _ _ ⟨rfl, rfl, rfl⟩ _
        iterate 2 (refine mj_r_pure rfl rfl ?_)
        refine mj_r_if_ne rfl (fun z4 => ?_) (fun z4 => ?_)
        · refine mj_r_pure rfl rfl ?_
          exact mj_r_iret rfl rfl rfl (hQ _ (by exact (if_neg (fun z => z4 (lg0.mpr z))).symm) f)
        · iterate 2 (refine mj_r_pure rfl rfl ?_)
          exact mj_r_iret rfl rfl rfl (hQ _ (by exact (if_pos (lg0.mp z4)).symm) f)
      · have ejw : ∃ w jw : Nat, w < 16 ∧ jw < n ∧ sp_jw S (24 * bb + j) n = nI w ∧ sp_on S (nI w) n = some jw := by
          unfold sp_jw
          by_cases c8 : S.1 0 (24 * bb + j) = 8
          · obtain ⟨t, ht, ht2⟩ := sp_m15 (pv S n (S.1 1 (24 * bb + j)))
            obtain ⟨jx, ox⟩ := g8 c8
            rw [ht2] at ox
            exact ⟨t, jx, ht, sp_on_lt ox, by rw [if_pos c8]; exact ht2, ox⟩
          · rw [ha2] at oa
            exact ⟨a0, ja, ha, sp_on_lt oa, by rw [if_neg c8]; exact ha2, oa⟩
        obtain ⟨w, jw, hw, hjw, ew, ow⟩ := ejw
        have ow2 : oI (sp_on S (nI w) n) = nI jw := by rw [ow]; rfl
        obtain ⟨num, hnum1, hnum2⟩ := hnum jw
        have ejn : sp_jn S (24 * bb + j) n = sp_up S jw (sp_jv S (24 * bb + j) n) := by rw [sp_jn, if_neg c9, ew, ow]; rfl
        rw [ejn] at hQ
        iterate 3 (refine mj_r_pure rfl rfl ?_)
        refine rr_get rfl rfl rfl ?_
        refine mj_r_callV (ci := 10) (kc := 0) (ks := 0) rfl li_Ref_117 ck_Ref_at iv_Ref_at (by decide) rfl rfl (K_Ref_at S bb _ nx hb8) rfl rfl (Nat.le_of_ble_eq_true rfl) ?_
        rintro _ _ _ ⟨rfl, rfl, rfl⟩ _
        rw [eat]
        iterate 2 (refine mj_r_pure rfl rfl ?_)
        refine mj_r_if_ge rfl (fun z1 => ?_) (fun z1 => absurd z1 (fun q => q (nI_pos' (by omega))))
        iterate 2 (refine mj_r_pure rfl rfl ?_)
        refine mj_r_callV (ci := 10) (kc := 0) (ks := 0) rfl li_Ref_200 ck_Ref_hasCells iv_Ref_hasCells (by decide) rfl rfl ((K_Ref_has_t S (24 * bb + j) a0 b0 nx n hkj ha2 ha hb2 hb3 hn h4 hh)) rfl rfl (Nat.le_of_ble_eq_true rfl) ?_
        rintro _ _ _ ⟨rfl, rfl, f, rfl, hf⟩ _
        refine mj_r_if_ne rfl (fun z2 => ?_) (fun z2 => absurd z2 (by decide))
        iterate 2 (refine mj_r_pure rfl rfl ?_)
        refine mj_r_callV (ci := 10) (kc := 0) (ks := 0) rfl li_Ref_124 ck_Ref_written iv_Ref_written (by decide) rfl rfl (K_Ref_written (sC S 9 f) (24 * bb + j) a0 nx hkj ha2 ha) rfl rfl (Nat.le_of_ble_eq_true rfl) ?_
        rintro _ _ _ ⟨rfl, rfl, rfl⟩ _
        rw [show sp_written (sC S 9 f) (24 * bb + j) = nI w by rw [← ew]; show (if S.1 0 (24 * bb + j) = 9 then _ else if S.1 0 (24 * bb + j) = 8 then f (S.1 1 (24 * bb + j)).toNatClampNeg &&& 15 else S.1 1 (24 * bb + j)) = _; rw [if_neg c9, hf.1]; rfl]
        iterate 2 (refine mj_r_pure rfl rfl ?_)
        refine mj_r_if_ge rfl (fun z3 => ?_) (fun z3 => absurd z3 (fun q => q (nI_pos' (by omega))))
        iterate 3 (refine mj_r_pure rfl rfl ?_)
        refine mj_r_callV (ci := 10) (kc := 0) (ks := 0) rfl li_Ref_194 ck_Ref_onPaper iv_Ref_onPaper (by decide) rfl rfl (K_Ref_onPaper (sC S 9 f) (nI w) nx n hn h4) rfl rfl (Nat.le_of_ble_eq_true rfl) ?_
        rintro _ _ _ ⟨rfl, rfl, rfl⟩ _
        rw [sp_on_C, ow2]
        iterate 2 (refine mj_r_pure rfl rfl ?_)
        refine mj_r_callV (ci := 10) (kc := 0) (ks := 0) rfl li_Ref_128 ck_Ref_valueOf iv_Ref_valueOf (by decide) rfl rfl ((K_Ref_valueOf_open hrot (sC S 9 f) (24 * bb + j) a0 b0 nx hkj ha2 ha hb2 hb3)) rfl rfl (Nat.le_of_ble_eq_true rfl) ?_
        rintro _ _ _ ⟨rfl, rfl, rfl⟩ _
        rw [show sp_valueOf (sC S 9 f) (24 * bb + j) = sp_jv S (24 * bb + j) n by
            show sp_val (S.1 0 (24 * bb + j)) (f (S.1 1 (24 * bb + j)).toNatClampNeg) (f (S.1 2 (24 * bb + j)).toNatClampNeg) (S.1 3 (24 * bb + j)) (f (f (S.1 2 (24 * bb + j)).toNatClampNeg &&& 15).toNatClampNeg) = _
            unfold sp_jv
            rw [hf.1]
            by_cases t0 : S.1 0 (24 * bb + j) = 0
            · exact sp_val_b (Or.inl t0)
            · by_cases t5 : S.1 0 (24 * bb + j) = 5
              · exact sp_val_b (Or.inr t5)
              · rw [hf.2.1 ⟨t0, t5, c9⟩]
                by_cases t7 : S.1 0 (24 * bb + j) = 7
                · rw [hf.2.2.1 t7]
                · exact sp_val_t t7]
        refine mj_r_callV (ci := 10) (kc := 0) (ks := 0) rfl li_Ref_197 ck_Ref_upFrom iv_Ref_upFrom (by decide) rfl rfl (K_Ref_upFrom (sC S 9 f) jw _ nx num (by omega) hnum2 hnum1) rfl rfl (Nat.le_of_ble_eq_true rfl) ?_
        rintro _ _ _ ⟨rfl, rfl, rfl⟩ _
        iterate 5 (refine mj_r_pure rfl rfl ?_)
        refine rr_get rfl rfl rfl ?_
        refine mj_r_callV (ci := 10) (kc := 0) (ks := 0) rfl li_Ref_131 ck_Ref_placeBehind iv_Ref_placeBehind (by decide) rfl rfl (K_Ref_placeBehind (sC S 9 f) (24 * bb + j) a0 nx _ hkj ha2 ha) rfl rfl (Nat.le_of_ble_eq_true rfl) ?_
        rintro _ _ _ ⟨rfl, rfl, rfl⟩ _
        rw [show sp_behind (sC S 9 f) (24 * bb + j) ((sC S 9 f).1 34 0) = sp_jb S (24 * bb + j) n by show (if S.1 0 (24 * bb + j) = 9 ∧ ¬ f (S.1 1 (24 * bb + j)).toNatClampNeg = 0 then _ else _) = _; rw [hf.1]; rfl]
        refine mj_r_pure rfl rfl ?_
        refine mj_r_callS (kc := 0) (ks := 0) rfl li_Ref_144 ck_Ref_mix iv_Ref_mix (by decide) rfl (K_Ref_mix _ _ _ nx) rfl rfl (Nat.le_of_ble_eq_true rfl) ?_
        rintro _ _ _ ⟨rfl, rfl, rfl⟩ _
        iterate 2 (refine mj_r_pure rfl rfl ?_)
        refine mj_r_if_ne rfl (fun z4 => ?_) (fun z4 => ?_)
        · refine mj_r_pure rfl rfl ?_
          exact mj_r_iret rfl rfl rfl (hQ _ (by exact (if_neg (fun z => z4 (lg0.mpr z))).symm) f)
        · iterate 2 (refine mj_r_pure rfl rfl ?_)
          exact mj_r_iret rfl rfl rfl (hQ _ (by exact (if_pos (lg0.mp z4)).symm) f)
    · rw [if_pos (by cases h : sp_hasB S (24 * bb + j) n with | false => rfl | true => exact absurd ((sp_hasB_iff S _ n).mp h) hh)] at hQ
      iterate 3 (refine mj_r_pure rfl rfl ?_)
      refine rr_get rfl rfl rfl ?_
      refine mj_r_callV (ci := 10) (kc := 0) (ks := 0) rfl li_Ref_117 ck_Ref_at iv_Ref_at (by decide) rfl rfl (K_Ref_at S bb _ nx hb8) rfl rfl (Nat.le_of_ble_eq_true rfl) ?_
      rintro _ _ _ ⟨rfl, rfl, rfl⟩ _
      rw [eat]
      iterate 2 (refine mj_r_pure rfl rfl ?_)
      refine mj_r_if_ge rfl (fun z1 => ?_) (fun z1 => absurd z1 (fun q => q (nI_pos' (by omega))))
      iterate 2 (refine mj_r_pure rfl rfl ?_)
      refine mj_r_callV (ci := 10) (kc := 0) (ks := 0) rfl li_Ref_200 ck_Ref_hasCells iv_Ref_hasCells (by decide) rfl rfl ((K_Ref_has_f S (24 * bb + j) a0 b0 nx n hkj ha2 ha hb2 hb3 hn h4 hh)) rfl rfl (Nat.le_of_ble_eq_true rfl) ?_
      rintro _ _ _ ⟨rfl, rfl, f, rfl⟩ _
      refine mj_r_if_ne rfl (fun z2 => absurd z2 (fun q => q rfl)) (fun z2 => ?_)
      refine mj_r_pure rfl rfl ?_
      exact mj_r_iret rfl rfl rfl (hQ _ rfl f)
  · have eat : sp_at S bb (S.1 34 0) = -1 := by rw [sp_at, if_neg c]
    rw [if_pos c] at hQ
    have hQ9 := fun r hr => hQ r hr (S.1 9)
    rw [← e9] at hQ9
    iterate 3 (refine mj_r_pure rfl rfl ?_)
    refine rr_get rfl rfl rfl ?_
    refine mj_r_callV (ci := 10) (kc := 0) (ks := 0) rfl li_Ref_117 ck_Ref_at iv_Ref_at (by decide) rfl rfl (K_Ref_at S bb _ nx hb8) rfl rfl (Nat.le_of_ble_eq_true rfl) ?_
    rintro _ _ _ ⟨rfl, rfl, rfl⟩ _
    rw [eat]
    iterate 2 (refine mj_r_pure rfl rfl ?_)
    refine mj_r_if_ge rfl (fun z1 => absurd z1 (m1_neg)) (fun z1 => ?_)
    iterate 3 (refine mj_r_pure rfl rfl ?_)
    refine mj_r_if_ne rfl (fun z2 => ?_) (fun z2 => ?_)
    · refine mj_r_pure rfl rfl ?_
      exact mj_r_iret rfl rfl rfl (hQ9 _ (by exact (if_neg (fun z => z2 (lg0.mpr z))).symm))
    · iterate 2 (refine mj_r_pure rfl rfl ?_)
      exact mj_r_iret rfl rfl rfl (hQ9 _ (by exact (if_pos (lg0.mp z2)).symm))
set_option maxRecDepth 20000 in
set_option maxHeartbeats 4000000 in
theorem K_Ref_judge_open (hrot : ∀ a c : Int32, sp_rotR a c = sp_rot a c) (S : rf_S) (b : Int32) (low high : Int64) (nx nb n : Nat) (hS : wf_P S) (hnb : S.1 5 0 = nI nb) (h8 : nb ≤ 8) (hq : wf_Q S n) : mj_K me_Ref_judge [.ref 21, .int b, .long low, .long high] (rf_h S) nx 0 0 (fun r h' nx' => r = some (.int (if isN b (S.1 5 0) then sp_judge S b.toNatClampNeg low high n else -1)) ∧ nx = nx' ∧ ∃ f, h' = rf_h (sC S 9 f)) := by
  refine mj_K.of ok_Ref_judge ck_Ref_judge (Nat.le_of_ble_eq_true rfl) ?_
  have e9 : rf_h S = rf_h (sC S 9 (S.1 9)) := by rw [sC_self]
  by_cases a1 : isN b (S.1 5 0)
  · obtain ⟨bb, hbb, rfl⟩ := isN_nat (n := nb) (by omega) (by rw [← hnb]; exact a1)
    rw [if_pos a1, nI_clamp (by omega)]
    iterate 2 (refine mj_r_pure rfl rfl ?_)
    refine mj_r_callV (ci := 10) (kc := 0) (ks := 0) rfl li_Ref_134 ck_Ref_isBatch iv_Ref_isBatch (by decide) rfl rfl (K_Ref_isBatch S _ nx) rfl rfl (Nat.le_of_ble_eq_true rfl) ?_
    rintro _ _ _ ⟨rfl, rfl, rfl⟩ _
    rw [bI_t a1]
    refine mj_r_if_ne rfl (fun c1 => ?_) (fun c1 => absurd c1 (by decide))
    refine mj_r_pure rfl rfl ?_
    refine rr_get rfl rfl rfl ?_
    refine mj_r_pure rfl rfl ?_
    refine rr_get rfl rfl rfl ?_
    refine mj_r_pure rfl rfl ?_
    refine mj_r_callS (kc := 0) (ks := 0) rfl li_Ref_144 ck_Ref_mix iv_Ref_mix (by decide) rfl (K_Ref_mix _ _ _ nx) rfl rfl (Nat.le_of_ble_eq_true rfl) ?_
    rintro _ _ _ ⟨rfl, rfl, rfl⟩ _
    iterate 2 (refine mj_r_pure rfl rfl ?_)
    refine mj_r_if_eq rfl (fun c2 => ?_) (fun c2 => ?_)
    · iterate 2 (refine mj_r_pure rfl rfl ?_)
      exact rl_ways (Q := (fun _ => True, fun r h' _ nx' => r = some (.int (sp_judge S bb low high n)) ∧ nx = nx' ∧ ∃ f, h' = rf_h (sC S 9 f))) hq (fun h2 => ⟨by rw [sp_judge, if_neg (fun q => q (lg0.mp c2)), if_pos h2], rfl, S.1 9, e9⟩) (fun h2 => rl_judge70_open hrot hS (by omega) hq (fun r hr f => ⟨by rw [sp_judge, if_neg (fun q => q (lg0.mp c2)), if_neg (by rw [h2]; exact fun z => by cases z), hr], rfl, f, rfl⟩)) n 0 (by omega) (fun j hj => absurd hj (by omega))
    · refine mj_r_pure rfl rfl ?_
      exact mj_r_iret rfl rfl rfl ⟨by rw [sp_judge, if_pos (fun z => c2 (lg0.mpr z))], rfl, S.1 9, e9⟩
  · rw [if_neg a1]
    iterate 2 (refine mj_r_pure rfl rfl ?_)
    refine mj_r_callV (ci := 10) (kc := 0) (ks := 0) rfl li_Ref_134 ck_Ref_isBatch iv_Ref_isBatch (by decide) rfl rfl (K_Ref_isBatch S _ nx) rfl rfl (Nat.le_of_ble_eq_true rfl) ?_
    rintro _ _ _ ⟨rfl, rfl, rfl⟩ _
    rw [bI_f a1]
    refine mj_r_if_ne rfl (fun c1 => absurd c1 (fun q => q rfl)) (fun c1 => ?_)
    refine mj_r_pure rfl rfl ?_
    exact mj_r_iret rfl rfl rfl ⟨rfl, rfl, S.1 9, e9⟩
theorem sC_X (S : rf_S) (f : Nat → Int32) : rf_h (sC S 9 f) = rf_h (sX S (f, S.1 10 0, S.1 11 0) (S.2 12)) := by
  have e : sX S (f, S.1 10 0, S.1 11 0) (S.2 12) = sM S (f, S.1 10 0, S.1 11 0) := sD_self (sM S (f, S.1 10 0, S.1 11 0)) 12
  rw [e]
  unfold sM
  dsimp only
  exact ((rf_num (S := sC (sC S 9 f) 10 (fun _ => S.1 10 0)) (p := 11) (f := fun _ => S.1 11 0) (by decide) rfl).trans (rf_num (S := sC S 9 f) (p := 10) (f := fun _ => S.1 10 0) (by decide) rfl)).symm
def sp_prove1 (S : rf_S) (d nd n : Nat) : Int32 × rf_S :=
  if sp_judge S (S.1 17 (S.1 23 d).toNatClampNeg).toNatClampNeg (S.2 27 d) (S.2 28 d) n = 0 then (1, sp_cw (sA S 33 d (S.1 33 d + 1)) d) else (0, sp_dw (sA S 33 d (S.1 33 d + 1)) d nd)
def sp_prove (S : rf_S) (d : Int32) (nd n : Nat) : Int32 × rf_S :=
  if isN d (S.1 21 0) ∧ S.1 24 d.toNatClampNeg = 0 ∧ S.1 30 d.toNatClampNeg = 2 then sp_prove1 S d.toNatClampNeg nd n else (-1, S)
theorem sC_cw (S : rf_S) (f : Nat → Int32) (d : Nat) : sp_cw (sC S 9 f) d = sC (sp_cw S d) 9 f := by
  show sA (sA (sA (sC S 9 f) 24 d 1) 14 _ _) 20 _ _ = _
  rw [sA_sC, sA_sC, sA_sC, sC_comm S (p := 9) (p' := 24) rfl, sC_comm _ (p := 9) (p' := 14) rfl, sC_comm _ (p := 9) (p' := 20) rfl]
  rfl
theorem sC_drop (S : rf_S) (f : Nat → Int32) (c : Int32) (n : Nat) : sp_drop c (sC S 9 f) n = sC (sp_drop c S n) 9 f := by
  induction n with
  | zero => rfl
  | succ n ih =>
    unfold sp_drop
    rw [ih]
    show (if (sp_drop c S n).1 23 n = c ∧ (sp_drop c S n).1 24 n = 0 then _ else _) = _
    by_cases h : (sp_drop c S n).1 23 n = c ∧ (sp_drop c S n).1 24 n = 0
    · rw [if_pos h, if_pos h, sA_sC, sA_sC, sC_comm _ (p := 9) (p' := 24) rfl, sC_comm _ (p := 9) (p' := 14) rfl]
      rfl
    · rw [if_neg h, if_neg h]
theorem sC_dw (S : rf_S) (f : Nat → Int32) (d nd : Nat) : sp_dw (sC S 9 f) d nd = sC (sp_dw S d nd) 9 f := by
  have e : sp_dw0 (sC S 9 f) d = sC (sp_dw0 S d) 9 f := by
    show sA (sA (sA (sC S 9 f) 24 d 2) 14 _ _) 19 _ _ = _
    rw [sA_sC, sA_sC, sA_sC, sC_comm S (p := 9) (p' := 24) rfl, sC_comm _ (p := 9) (p' := 14) rfl, sC_comm _ (p := 9) (p' := 19) rfl]
    rfl
  show sp_drop (S.1 23 d) (sp_dw0 (sC S 9 f) d) nd = _
  rw [e, sC_drop]
  rfl
theorem rxC {P : Int32 × rf_S} {v : Int32} {S' T : rf_S} {f : Nat → Int32} {nx : Nat} (h : P = (v, S')) (e : T = sC S' 9 f) : some (Value.int v) = some (.int P.1) ∧ nx = nx ∧ ∃ m nd, rf_h T = rf_h (sX P.2 m nd) := by subst h; subst e; exact ⟨rfl, rfl, _, _, sC_X S' f⟩
set_option maxRecDepth 20000 in
set_option maxHeartbeats 4000000 in
theorem K_Ref_prove_open (hrot : ∀ a c : Int32, sp_rotR a c = sp_rot a c) (S : rf_S) (d : Int32) (nx nb nc nd n : Nat) (hS : wf_P S) (hnb : S.1 5 0 = nI nb) (h8 : nb ≤ 8) (hq : wf_Q S n) (hD : wf_D S nc nd) (hcb : ∀ c, c < nc → ∃ b, b < nb ∧ S.1 17 c = nI b) : rKx me_Ref_prove [.int d] S nx (sp_prove S d nd n) := by
  refine mj_K.of ok_Ref_prove ck_Ref_prove (Nat.le_of_ble_eq_true rfl) ?_
  have hnd := hD.1
  have h80 := hD.2.1
  have h40 := hD.2.2.2.1
  by_cases a1 : isN d (S.1 21 0)
  · obtain ⟨j, hj, rfl⟩ := isN_nat (n := nd) (by omega) (by rw [← hnd]; exact a1)
    have ej : (nI j).toNatClampNeg = j := nI_clamp (by omega)
    obtain ⟨c, hc, hc2⟩ := hD.2.2.2.2.1 j hj
    obtain ⟨b, hb, hb2⟩ := hcb c hc
    have ejg : sp_judge S (S.1 17 (S.1 23 j).toNatClampNeg).toNatClampNeg (S.2 27 j) (S.2 28 j) n = sp_judge S b (S.2 27 j) (S.2 28 j) n := by rw [hc2, nI_clamp (by omega), hb2, nI_clamp (by omega)]
    generalize hT : sA S 33 j (S.1 33 j + 1) = T
    have hTD : wf_D T nc nd := by rw [← hT]; exact hD
    have eT : (if isN (nI b) (T.1 5 0) then sp_judge T (nI b).toNatClampNeg (T.2 27 j) (T.2 28 j) n else -1) = sp_judge S b (S.2 27 j) (S.2 28 j) n := by
      rw [← hT]
      refine (if_pos (show isN (nI b) (S.1 5 0) by rw [hnb]; exact nat_isN hb (by omega))).trans ?_
      rw [nI_clamp (by omega)]
      rfl
    iterate 2 (refine mj_r_pure rfl rfl ?_)
    refine mj_r_callV (ci := 10) (kc := 0) (ks := 0) rfl li_Ref_181 ck_Ref_isDispute iv_Ref_isDispute (by decide) rfl rfl (K_Ref_isDispute S _ nx) rfl rfl (Nat.le_of_ble_eq_true rfl) ?_
    rintro _ _ _ ⟨rfl, rfl, rfl⟩ _
    rw [bI_t a1]
    refine mj_r_if_eq rfl (fun c1 => absurd c1 (by decide)) (fun c1 => ?_)
    refine mj_r_pure rfl rfl ?_
    refine rr_get rfl rfl rfl ?_
    refine mj_r_pure rfl rfl ?_
    refine rx_iald rfl rfl (by first | rfl | assumption) (by omega) ?_
    refine mj_r_if_ne rfl (fun c2 => ?_) (fun c2 => ?_)
    · refine mj_r_pure rfl rfl ?_
      exact mj_r_iret rfl rfl rfl (rx0 (by refine if_neg (fun q => ?_); rw [ej] at q; exact c2 q.2.1))
    · refine mj_r_pure rfl rfl ?_
      refine rr_get rfl rfl rfl ?_
      refine mj_r_pure rfl rfl ?_
      refine rx_iald rfl rfl (by first | rfl | assumption) (by omega) ?_
      refine mj_r_pure rfl rfl ?_
      refine mj_r_icmp_eq rfl (fun c3 => ?_) (fun c3 => ?_)
      · iterate 3 (refine mj_r_pure rfl rfl ?_)
        refine rr_get rfl rfl rfl ?_
        iterate 2 (refine mj_r_pure rfl rfl ?_)
        refine rx_iald rfl rfl (by first | rfl | assumption) (by omega) ?_
        iterate 2 (refine mj_r_pure rfl rfl ?_)
        refine rx_iast rfl rfl (by first | rfl | assumption) (by omega) ?_
        rw [hT]
        have e23 : T.1 23 j = nI c := by rw [← hT]; exact hc2
        iterate 2 (refine mj_r_pure rfl rfl ?_)
        refine rr_get rfl rfl rfl ?_
        refine mj_r_pure rfl rfl ?_
        refine rr_get rfl rfl rfl ?_
        refine mj_r_pure rfl rfl ?_
        refine rx_iald rfl rfl (by first | rfl | assumption) (by omega) ?_
        refine rx_iald rfl rfl e23 (by omega) ?_
        refine mj_r_pure rfl rfl ?_
        refine rr_get rfl rfl rfl ?_
        refine mj_r_pure rfl rfl ?_
        refine rx_lald rfl rfl (by first | rfl | assumption) (by omega) ?_
        refine mj_r_pure rfl rfl ?_
        refine rr_get rfl rfl rfl ?_
        refine mj_r_pure rfl rfl ?_
        refine rx_lald rfl rfl (by first | rfl | assumption) (by omega) ?_
        have e17 : T.1 17 c = nI b := by rw [← hT]; exact hb2
        change mj_W _ _ _ [.long (T.2 28 j), .long (T.2 27 j), .int (T.1 17 c), .ref 21] _ _ _ _ _ _
        rw [e17]
        refine mj_r_callV (ci := 10) (kc := 0) (ks := 0) rfl li_Ref_203 ck_Ref_judge iv_Ref_judge (by decide) rfl rfl ((K_Ref_judge_open hrot T (nI b) (T.2 27 j) (T.2 28 j) nx nb n (by rw [← hT]; exact hS) (by rw [← hT]; exact hnb) h8 (by rw [← hT]; exact hq))) rfl rfl (Nat.le_of_ble_eq_true rfl) ?_
        rintro _ _ _ ⟨rfl, rfl, f, rfl⟩ _
        rw [eT]
        refine mj_r_if_ne rfl (fun c4 => ?_) (fun c4 => ?_)
        · iterate 3 (refine mj_r_pure rfl rfl ?_)
          refine mj_r_if_eq rfl (fun c5 => ?_) (fun c5 => absurd c5 (fun q => q rfl))
          iterate 2 (refine mj_r_pure rfl rfl ?_)
          refine mj_r_callV (ci := 10) (kc := 0) (ks := 0) rfl li_Ref_210 ck_Ref_disputerWins iv_Ref_disputerWins (by decide) rfl rfl (K_Ref_disputerWins (sC T 9 f) j nx nc nd hTD hj) rfl rfl (Nat.le_of_ble_eq_true rfl) ?_
          rintro _ _ _ ⟨rfl, rfl, rfl⟩ _
          refine mj_r_pure rfl rfl ?_
          refine mj_r_if_eq rfl (fun c6 => ?_) (fun c6 => absurd c6 (fun q => q rfl))
          refine mj_r_pure rfl rfl ?_
          exact mj_r_iret rfl rfl rfl (rxC (S' := sp_dw T j nd) (f := f) (by rw [sp_prove, ej, if_pos ⟨a1, c2, c3⟩, sp_prove1, ejg, if_neg c4, hT]) (sC_dw T f j nd))
        · iterate 4 (refine mj_r_pure rfl rfl ?_)
          refine mj_r_if_eq rfl (fun c7 => absurd c7 (by decide)) (fun c7 => ?_)
          iterate 2 (refine mj_r_pure rfl rfl ?_)
          refine mj_r_callV (ci := 10) (kc := 0) (ks := 0) rfl li_Ref_207 ck_Ref_claimantWins iv_Ref_claimantWins (by decide) rfl rfl (K_Ref_claimantWins (sC T 9 f) j nx nc nd hTD hj) rfl rfl (Nat.le_of_ble_eq_true rfl) ?_
          rintro _ _ _ ⟨rfl, rfl, rfl⟩ _
          iterate 2 (refine mj_r_pure rfl rfl ?_)
          refine mj_r_if_eq rfl (fun c8 => absurd c8 (by decide)) (fun c8 => ?_)
          iterate 2 (refine mj_r_pure rfl rfl ?_)
          exact mj_r_iret rfl rfl rfl (rxC (S' := sp_cw T j) (f := f) (by rw [sp_prove, ej, if_pos ⟨a1, c2, c3⟩, sp_prove1, ejg, if_pos c4, hT]) (sC_cw T f j))
      · refine mj_r_pure rfl rfl ?_
        exact mj_r_iret rfl rfl rfl (rx0 (by refine if_neg (fun q => ?_); rw [ej] at q; exact c3 q.2.2))
  · iterate 2 (refine mj_r_pure rfl rfl ?_)
    refine mj_r_callV (ci := 10) (kc := 0) (ks := 0) rfl li_Ref_181 ck_Ref_isDispute iv_Ref_isDispute (by decide) rfl rfl (K_Ref_isDispute S _ nx) rfl rfl (Nat.le_of_ble_eq_true rfl) ?_
    rintro _ _ _ ⟨rfl, rfl, rfl⟩ _
    rw [bI_f a1]
    refine mj_r_if_eq rfl (fun c1 => ?_) (fun c1 => absurd c1 (fun q => q rfl))
    refine mj_r_pure rfl rfl ?_
    exact mj_r_iret rfl rfl rfl (rx0 (by refine if_neg (fun q => ?_); exact a1 q.1))
