/-! the class: the verdict -/
set_option maxRecDepth 20000 in
set_option maxHeartbeats 4000000 in
theorem cl_v28 {Q : mj_post} (h : mj_H) (S : rf_S) (n nx p ln bb : Nat) (low high : Int64) (hp : iPa h S n) (hpr : cPr h p (sp_P S bb) ln) (hw : wf_O S) (hQ : ∀ r : Int32, r = (if ¬ isN (S.1 34 0) (S.1 6 bb) then (if low = high then 0 else 4) else if sp_hasB S (24 * bb + (S.1 34 0).toNatClampNeg) n = false then 3 else if sp_mix (sp_jn S (24 * bb + (S.1 34 0).toNatClampNeg) n) (sp_jb S (24 * bb + (S.1 34 0).toNatClampNeg) n).toInt64 = high then 0 else 4) → Q.2 (some (.int r)) h mj_0 nx) : mj_W me_Paper_verdict 28 [(0, .ref 7), (1, .ref p), (2, .long low), (4, .long high)] [] h mj_0 nx 0 0 Q := by
  obtain ⟨⟨hn, h4, hnum⟩, h7, ⟨f8, h8, hf8⟩, hoo⟩ := id hp
  obtain ⟨hln, hlen, l, f, p1, p2, p3⟩ := id hpr
  have hlen2 : S.1 6 bb = nI ln := hlen
  by_cases c : isN (S.1 34 0) (S.1 6 bb)
  · obtain ⟨j, hj, hj2⟩ := isN_nat (n := ln) (by omega) (by rw [← hlen2]; exact c)
    have ejj : (S.1 34 0).toNatClampNeg = j := by rw [hj2, nI_clamp (by omega)]
    rw [if_neg (fun q => q c), ejj] at hQ
    obtain ⟨io, p4, po⟩ := p3 j hj
    obtain ⟨a0, ha, ha2⟩ := hw.1.1 (24 * bb + j)
    obtain ⟨b0, hb3, hb2⟩ := hw.1.2.1 (24 * bb + j)
    have hop := hw.2.1 (24 * bb + j)
    have po : h.1 4 io = some (oIns (S.1 0 (24 * bb + j)) (S.1 1 (24 * bb + j)) (S.1 2 (24 * bb + j)) (S.1 3 (24 * bb + j))) := po
    have e3 : ¬ sp_has S (24 * bb + j) n → sp_hasB S (24 * bb + j) n = false := fun z => by
      cases hb : sp_hasB S (24 * bb + j) n with
      | false => rfl
      | true => exact absurd ((sp_hasB_iff S _ n).mp hb) z
    generalize hk : 24 * bb + j = k at *
    rcases on_dec S (S.1 1 k) n with oa | ⟨ja, hja, oa⟩
    · rw [if_pos (e3 (fun z => by obtain ⟨⟨j', o'⟩, -⟩ := z; rw [oa] at o'; cases o'))] at hQ
      have oa2 : oR (sp_on S (S.1 1 k) n) = .null := by rw [oa]; rfl
      rcases on_dec S (S.1 2 k) n with ob | ⟨jb, hjb, ob⟩
      · have ob2 : oR (sp_on S (S.1 2 k) n) = .null := by rw [ob]; rfl
        iterate 2 (refine mj_r_pure rfl rfl ?_)
        refine mj_r_getf rfl rfl h7 rfl ?_
        rw [hj2]
        refine mj_r_cV0 (ci := 8)  rfl li_Paper_43 ck_Program_lineAt iv_Program_lineAt (by decide) ((K_Program_lineAt_t _ p l ln j io nx f p1 p2 hln hj p4)) rfl rfl (Nat.le_of_ble_eq_true rfl) rfl p1 ?_
        rintro _ _ _ ⟨rfl, rfl, rfl⟩ _
        iterate 2 (refine mj_r_pure rfl rfl ?_)
        refine mj_r_pure rfl rfl ?_
        iterate 2 (refine mj_r_pure rfl rfl ?_)
        refine mj_r_getf rfl rfl po rfl ?_
        refine mj_r_cV0 (ci := 7)  rfl li_Paper_54 ck_Paper_find iv_Paper_find (by decide) ((K_Paper_find _ S n nx (S.1 1 k) hp)) rfl rfl (Nat.le_of_ble_eq_true rfl) rfl h7 ?_
        rintro _ _ _ ⟨rfl, rfl, rfl⟩ _
        rw [oa2]
        iterate 2 (refine mj_r_pure rfl rfl ?_)
        refine mj_r_cV0 (ci := 4)  rfl li_Paper_58 ck_Instruction_asksForB iv_Instruction_asksForB (by decide) ((K_Instruction_asksForB _ io nx _ _ _ _ po)) rfl rfl (Nat.le_of_ble_eq_true rfl) rfl po ?_
        rintro _ _ _ ⟨rfl, rfl, rfl⟩ _
        refine mj_r_if_eq rfl (fun z1 => ?_) (fun z1 => ?_)
        · iterate 3 (refine mj_r_pure rfl rfl ?_)
          refine mj_r_pure rfl rfl ?_
          refine mj_r_pure rfl rfl ?_
          exact mj_r_iret rfl rfl rfl ((hQ 3 rfl))
        · iterate 2 (refine mj_r_pure rfl rfl ?_)
          refine mj_r_getf rfl rfl po rfl ?_
          refine mj_r_cV0 (ci := 7)  rfl li_Paper_54 ck_Paper_find iv_Paper_find (by decide) ((K_Paper_find _ S n nx (S.1 2 k) hp)) rfl rfl (Nat.le_of_ble_eq_true rfl) rfl h7 ?_
          rintro _ _ _ ⟨rfl, rfl, rfl⟩ _
          rw [ob2]
          iterate 3 (refine mj_r_pure rfl rfl ?_)
          refine mj_r_pure rfl rfl ?_
          refine mj_r_pure rfl rfl ?_
          exact mj_r_iret rfl rfl rfl ((hQ 3 rfl))
      · have ob2 : oR (sp_on S (S.1 2 k) n) = .ref (9 + 2 * jb) := by rw [ob]; rfl
        iterate 2 (refine mj_r_pure rfl rfl ?_)
        refine mj_r_getf rfl rfl h7 rfl ?_
        rw [hj2]
        refine mj_r_cV0 (ci := 8)  rfl li_Paper_43 ck_Program_lineAt iv_Program_lineAt (by decide) ((K_Program_lineAt_t _ p l ln j io nx f p1 p2 hln hj p4)) rfl rfl (Nat.le_of_ble_eq_true rfl) rfl p1 ?_
        rintro _ _ _ ⟨rfl, rfl, rfl⟩ _
        iterate 2 (refine mj_r_pure rfl rfl ?_)
        refine mj_r_pure rfl rfl ?_
        iterate 2 (refine mj_r_pure rfl rfl ?_)
        refine mj_r_getf rfl rfl po rfl ?_
        refine mj_r_cV0 (ci := 7)  rfl li_Paper_54 ck_Paper_find iv_Paper_find (by decide) ((K_Paper_find _ S n nx (S.1 1 k) hp)) rfl rfl (Nat.le_of_ble_eq_true rfl) rfl h7 ?_
        rintro _ _ _ ⟨rfl, rfl, rfl⟩ _
        rw [oa2]
        iterate 2 (refine mj_r_pure rfl rfl ?_)
        refine mj_r_cV0 (ci := 4)  rfl li_Paper_58 ck_Instruction_asksForB iv_Instruction_asksForB (by decide) ((K_Instruction_asksForB _ io nx _ _ _ _ po)) rfl rfl (Nat.le_of_ble_eq_true rfl) rfl po ?_
        rintro _ _ _ ⟨rfl, rfl, rfl⟩ _
        refine mj_r_if_eq rfl (fun z1 => ?_) (fun z1 => ?_)
        · iterate 3 (refine mj_r_pure rfl rfl ?_)
          refine mj_r_pure rfl rfl ?_
          refine mj_r_pure rfl rfl ?_
          exact mj_r_iret rfl rfl rfl ((hQ 3 rfl))
        · iterate 2 (refine mj_r_pure rfl rfl ?_)
          refine mj_r_getf rfl rfl po rfl ?_
          refine mj_r_cV0 (ci := 7)  rfl li_Paper_54 ck_Paper_find iv_Paper_find (by decide) ((K_Paper_find _ S n nx (S.1 2 k) hp)) rfl rfl (Nat.le_of_ble_eq_true rfl) rfl h7 ?_
          rintro _ _ _ ⟨rfl, rfl, rfl⟩ _
          rw [ob2]
          iterate 3 (refine mj_r_pure rfl rfl ?_)
          refine mj_r_pure rfl rfl ?_
          refine mj_r_pure rfl rfl ?_
          exact mj_r_iret rfl rfl rfl ((hQ 3 rfl))
    · have oa2 : oR (sp_on S (S.1 1 k) n) = .ref (9 + 2 * ja) := by rw [oa]; rfl
      have fin : ∀ jb, jb < n → (tw (S.1 0 k) → sp_on S (S.1 2 k) n = some jb) → mj_W me_Paper_verdict 91 [(0, .ref 7), (1, .ref p), (2, .long low), (4, .long high), (6, .ref io), (7, .ref (9 + 2 * ja)), (8, .ref (9 + 2 * jb))] [] h mj_0 nx 0 0 Q := fun jb hjb ob => by
        have v1 := (hoo ja (by omega)).1
        have v2 := (hoo jb (by omega)).1
        rcases on_dec S (sp_told (S.1 0 k) (S.1 1 k) (S.1 38 ja) (S.1 38 jb)) n with ot | ⟨jt, hjt, ot⟩
        · have ot2 : oR (sp_on S (sp_told (S.1 0 k) (S.1 1 k) (S.1 38 ja) (S.1 38 jb)) n) = .null := by rw [ot]; rfl
          rw [if_pos (e3 (jd_no oa ob ot))] at hQ
          refine mj_r_pure rfl rfl ?_
          refine mj_r_pure rfl rfl ?_
          refine mj_r_pure rfl rfl ?_
          refine mj_r_pure rfl rfl ?_
          iterate 3 (refine mj_r_pure rfl rfl ?_)
          refine mj_r_getf rfl rfl v1 rfl ?_
          refine mj_r_pure rfl rfl ?_
          refine mj_r_getf rfl rfl v2 rfl ?_
          refine mj_r_cV0 (ci := 4)  rfl li_Paper_64 ck_Instruction_toldCell iv_Instruction_toldCell (by decide) ((K_Instruction_toldCell _ io nx _ _ _ _ _ _ po)) rfl rfl (Nat.le_of_ble_eq_true rfl) rfl po ?_
          rintro _ _ _ ⟨rfl, rfl, rfl⟩ _
          refine mj_r_cV0 (ci := 7)  rfl li_Paper_54 ck_Paper_find iv_Paper_find (by decide) ((K_Paper_find _ S n nx _ hp)) rfl rfl (Nat.le_of_ble_eq_true rfl) rfl h7 ?_
          rintro _ _ _ ⟨rfl, rfl, rfl⟩ _
          rw [ot2]
          iterate 2 (refine mj_r_pure rfl rfl ?_)
          refine mj_r_pure rfl rfl ?_
          refine mj_r_pure rfl rfl ?_
          exact mj_r_iret rfl rfl rfl ((hQ 3 rfl))
        · have ot2 : oR (sp_on S (sp_told (S.1 0 k) (S.1 1 k) (S.1 38 ja) (S.1 38 jb)) n) = .ref (9 + 2 * jt) := by rw [ot]; rfl
          have hh := jd_has oa ob ot
          rw [if_neg (by rw [(sp_hasB_iff S _ n).mpr hh]; exact fun z => by cases z), jd_jn oa ob ot, jd_jb oa] at hQ
          refine mj_r_pure rfl rfl ?_
          refine mj_r_pure rfl rfl ?_
          refine mj_r_pure rfl rfl ?_
          refine mj_r_pure rfl rfl ?_
          iterate 3 (refine mj_r_pure rfl rfl ?_)
          refine mj_r_getf rfl rfl v1 rfl ?_
          refine mj_r_pure rfl rfl ?_
          refine mj_r_getf rfl rfl v2 rfl ?_
          refine mj_r_cV0 (ci := 4)  rfl li_Paper_64 ck_Instruction_toldCell iv_Instruction_toldCell (by decide) ((K_Instruction_toldCell _ io nx _ _ _ _ _ _ po)) rfl rfl (Nat.le_of_ble_eq_true rfl) rfl po ?_
          rintro _ _ _ ⟨rfl, rfl, rfl⟩ _
          refine mj_r_cV0 (ci := 7)  rfl li_Paper_54 ck_Paper_find iv_Paper_find (by decide) ((K_Paper_find _ S n nx _ hp)) rfl rfl (Nat.le_of_ble_eq_true rfl) rfl h7 ?_
          rintro _ _ _ ⟨rfl, rfl, rfl⟩ _
          rw [ot2]
          iterate 2 (refine mj_r_pure rfl rfl ?_)
          refine mj_r_pure rfl rfl ?_
          iterate 5 (refine mj_r_pure rfl rfl ?_)
          refine mj_r_cV0 (ci := 7)  rfl li_Paper_68 ck_Paper_rootBehind iv_Paper_rootBehind (by decide) ((K_Paper_rootBehind _ S n nx io ja jb jt _ _ _ _ hp po hop (by omega) (by omega) (by omega))) rfl rfl (Nat.le_of_ble_eq_true rfl) rfl h7 ?_
          rintro _ _ _ ⟨rfl, rfl, rfl⟩ _
          iterate 2 (refine mj_r_pure rfl rfl ?_)
          refine mj_r_getf rfl rfl h7 rfl ?_
          refine mj_r_pure rfl rfl ?_
          refine mj_r_getf rfl rfl v1 rfl ?_
          refine mj_r_cV0 (ci := 4)  rfl li_Paper_72 ck_Instruction_placeBehind iv_Instruction_placeBehind (by decide) ((K_Instruction_placeBehind _ io nx _ _ _ _ _ _ po)) rfl rfl (Nat.le_of_ble_eq_true rfl) rfl po ?_
          rintro _ _ _ ⟨rfl, rfl, rfl⟩ _
          refine mj_r_pure rfl rfl ?_
          refine mj_r_callSN (kc := 0) (ks := 0) rfl li_Paper_35 ck_Top_mix iv_Top_mix (by decide) (K_Top_mix _ _ _ nx) rfl rfl (Nat.le_of_ble_eq_true rfl) ?_
          rintro _ _ _ ⟨rfl, rfl, rfl⟩ _
          iterate 4 (refine mj_r_pure rfl rfl ?_)
          refine mj_r_if_ne rfl (fun z1 => ?_) (fun z1 => ?_)
          · refine mj_r_pure rfl rfl ?_
            exact mj_r_iret rfl rfl rfl ((hQ 4 (by rw [if_neg (fun q => z1 (lg0.mpr q))])))
          · iterate 2 (refine mj_r_pure rfl rfl ?_)
            exact mj_r_iret rfl rfl rfl ((hQ 0 (by rw [if_pos (lg0.mp z1)])))
      have fin0 : ∀ jb, jb < n → (tw (S.1 0 k) → sp_on S (S.1 2 k) n = some jb) → ∀ lv, mj_pk lv [0, 1, 2, 4, 6, 7, 8] = some [(0, .ref 7), (1, .ref p), (2, .long low), (4, .long high), (6, .ref io), (7, .ref (9 + 2 * ja)), (8, .ref (9 + 2 * jb))] → mj_W me_Paper_verdict 91 lv [] h mj_0 nx 0 0 Q := fun jb hjb ob lv hlv => mj_W.fewer _ hlv (fin jb hjb ob)
      rcases on_dec S (S.1 2 k) n with ob | ⟨jb, hjb, ob⟩
      · have ob2 : oR (sp_on S (S.1 2 k) n) = .null := by rw [ob]; rfl
        iterate 2 (refine mj_r_pure rfl rfl ?_)
        refine mj_r_getf rfl rfl h7 rfl ?_
        rw [hj2]
        refine mj_r_cV0 (ci := 8)  rfl li_Paper_43 ck_Program_lineAt iv_Program_lineAt (by decide) ((K_Program_lineAt_t _ p l ln j io nx f p1 p2 hln hj p4)) rfl rfl (Nat.le_of_ble_eq_true rfl) rfl p1 ?_
        rintro _ _ _ ⟨rfl, rfl, rfl⟩ _
        iterate 2 (refine mj_r_pure rfl rfl ?_)
        refine mj_r_pure rfl rfl ?_
        iterate 2 (refine mj_r_pure rfl rfl ?_)
        refine mj_r_getf rfl rfl po rfl ?_
        refine mj_r_cV0 (ci := 7)  rfl li_Paper_54 ck_Paper_find iv_Paper_find (by decide) ((K_Paper_find _ S n nx (S.1 1 k) hp)) rfl rfl (Nat.le_of_ble_eq_true rfl) rfl h7 ?_
        rintro _ _ _ ⟨rfl, rfl, rfl⟩ _
        rw [oa2]
        iterate 2 (refine mj_r_pure rfl rfl ?_)
        refine mj_r_cV0 (ci := 4)  rfl li_Paper_58 ck_Instruction_asksForB iv_Instruction_asksForB (by decide) ((K_Instruction_asksForB _ io nx _ _ _ _ po)) rfl rfl (Nat.le_of_ble_eq_true rfl) rfl po ?_
        rintro _ _ _ ⟨rfl, rfl, rfl⟩ _
        refine mj_r_if_eq rfl (fun z1 => ?_) (fun z1 => ?_)
        · iterate 2 (refine mj_r_pure rfl rfl ?_)
          exact fin0 ja hja (fun q => absurd q ((bI_0 (c := ¬ S.1 0 k = 0 ∧ ¬ S.1 0 k = 5 ∧ ¬ S.1 0 k = 9)).mp z1)) _ rfl
        · iterate 2 (refine mj_r_pure rfl rfl ?_)
          refine mj_r_getf rfl rfl po rfl ?_
          refine mj_r_cV0 (ci := 7)  rfl li_Paper_54 ck_Paper_find iv_Paper_find (by decide) ((K_Paper_find _ S n nx (S.1 2 k) hp)) rfl rfl (Nat.le_of_ble_eq_true rfl) rfl h7 ?_
          rintro _ _ _ ⟨rfl, rfl, rfl⟩ _
          rw [ob2]
          iterate 3 (refine mj_r_pure rfl rfl ?_)
          refine mj_r_pure rfl rfl ?_
          refine mj_r_pure rfl rfl ?_
          refine mj_r_pure rfl rfl ?_
          refine mj_r_pure rfl rfl ?_
          exact mj_r_iret rfl rfl rfl ((hQ 3 (by rw [if_pos (e3 (fun z => by obtain ⟨j', o'⟩ := z.2.1 (Decidable.of_not_not (p := ¬ S.1 0 k = 0 ∧ ¬ S.1 0 k = 5 ∧ ¬ S.1 0 k = 9) (fun q => z1 (bI_f q))); rw [ob] at o'; cases o'))])))
      · have ob2 : oR (sp_on S (S.1 2 k) n) = .ref (9 + 2 * jb) := by rw [ob]; rfl
        iterate 2 (refine mj_r_pure rfl rfl ?_)
        refine mj_r_getf rfl rfl h7 rfl ?_
        rw [hj2]
        refine mj_r_cV0 (ci := 8)  rfl li_Paper_43 ck_Program_lineAt iv_Program_lineAt (by decide) ((K_Program_lineAt_t _ p l ln j io nx f p1 p2 hln hj p4)) rfl rfl (Nat.le_of_ble_eq_true rfl) rfl p1 ?_
        rintro _ _ _ ⟨rfl, rfl, rfl⟩ _
        iterate 2 (refine mj_r_pure rfl rfl ?_)
        refine mj_r_pure rfl rfl ?_
        iterate 2 (refine mj_r_pure rfl rfl ?_)
        refine mj_r_getf rfl rfl po rfl ?_
        refine mj_r_cV0 (ci := 7)  rfl li_Paper_54 ck_Paper_find iv_Paper_find (by decide) ((K_Paper_find _ S n nx (S.1 1 k) hp)) rfl rfl (Nat.le_of_ble_eq_true rfl) rfl h7 ?_
        rintro _ _ _ ⟨rfl, rfl, rfl⟩ _
        rw [oa2]
        iterate 2 (refine mj_r_pure rfl rfl ?_)
        refine mj_r_cV0 (ci := 4)  rfl li_Paper_58 ck_Instruction_asksForB iv_Instruction_asksForB (by decide) ((K_Instruction_asksForB _ io nx _ _ _ _ po)) rfl rfl (Nat.le_of_ble_eq_true rfl) rfl po ?_
        rintro _ _ _ ⟨rfl, rfl, rfl⟩ _
        refine mj_r_if_eq rfl (fun z1 => ?_) (fun z1 => ?_)
        · iterate 2 (refine mj_r_pure rfl rfl ?_)
          exact fin0 ja hja (fun q => absurd q ((bI_0 (c := ¬ S.1 0 k = 0 ∧ ¬ S.1 0 k = 5 ∧ ¬ S.1 0 k = 9)).mp z1)) _ rfl
        · iterate 2 (refine mj_r_pure rfl rfl ?_)
          refine mj_r_getf rfl rfl po rfl ?_
          refine mj_r_cV0 (ci := 7)  rfl li_Paper_54 ck_Paper_find iv_Paper_find (by decide) ((K_Paper_find _ S n nx (S.1 2 k) hp)) rfl rfl (Nat.le_of_ble_eq_true rfl) rfl h7 ?_
          rintro _ _ _ ⟨rfl, rfl, rfl⟩ _
          rw [ob2]
          iterate 2 (refine mj_r_pure rfl rfl ?_)
          exact fin0 jb hjb (fun _ => ob) _ rfl
  · rw [if_pos c] at hQ
    iterate 2 (refine mj_r_pure rfl rfl ?_)
    refine mj_r_getf rfl rfl h7 rfl ?_
    refine mj_r_cV0 (ci := 8)  rfl li_Paper_43 ck_Program_lineAt iv_Program_lineAt (by decide) ((K_Program_lineAt_f _ p l ln nx f _ p1 hln (by rw [← hlen2]; exact c))) rfl rfl (Nat.le_of_ble_eq_true rfl) rfl p1 ?_
    rintro _ _ _ ⟨rfl, rfl, rfl⟩ _
    iterate 2 (refine mj_r_pure rfl rfl ?_)
    refine mj_r_pure rfl rfl ?_
    iterate 3 (refine mj_r_pure rfl rfl ?_)
    refine mj_r_if_ne rfl (fun z1 => ?_) (fun z1 => ?_)
    · refine mj_r_pure rfl rfl ?_
      exact mj_r_iret rfl rfl rfl ((hQ 4 (by rw [if_neg (fun q => z1 (lg0.mpr q))])))
    · iterate 2 (refine mj_r_pure rfl rfl ?_)
      exact mj_r_iret rfl rfl rfl ((hQ 0 (by rw [if_pos (lg0.mp z1)])))
set_option maxRecDepth 20000 in
set_option maxHeartbeats 4000000 in
theorem K_Paper_verdict (h : mj_H) (S : rf_S) (n nx p ln bb : Nat) (low high : Int64) (hp : iPa h S n) (hpr : cPr h p (sp_P S bb) ln) (hw : wf_O S) : cK me_Paper_verdict [.ref 7, .ref p, .long low, .long high] h nx (some (.int (sp_judge S bb low high n))) h := by
  obtain ⟨⟨hn, h4, hnum⟩, h7, ⟨f8, h8, hf8⟩, hoo⟩ := id hp
  refine mj_K.of ok_Paper_verdict ck_Paper_verdict (Nat.le_of_ble_eq_true rfl) ?_
  refine mj_r_pure rfl rfl ?_
  refine mj_r_getf rfl rfl h7 rfl ?_
  refine mj_r_pure rfl rfl ?_
  refine mj_r_getf rfl rfl h7 rfl ?_
  refine mj_r_pure rfl rfl ?_
  refine mj_r_callSN (kc := 0) (ks := 0) rfl li_Paper_35 ck_Top_mix iv_Top_mix (by decide) (K_Top_mix _ _ _ nx) rfl rfl (Nat.le_of_ble_eq_true rfl) ?_
  rintro _ _ _ ⟨rfl, rfl, rfl⟩ _
  iterate 2 (refine mj_r_pure rfl rfl ?_)
  refine mj_r_if_eq rfl (fun c1 => ?_) (fun c1 => ?_)
  · refine mj_r_pure rfl rfl ?_
    refine mj_r_cV0 (ci := 7)  rfl li_Paper_39 ck_Paper_allWaysEndAtRoot iv_Paper_allWaysEndAtRoot (by decide) ((K_Paper_all _ S n nx hp)) rfl rfl (Nat.le_of_ble_eq_true rfl) rfl h7 ?_
    rintro _ _ _ ⟨rfl, rfl, rfl⟩ _
    refine mj_r_if_ne rfl (fun c2 => ?_) (fun c2 => ?_)
    · refine cl_v28 _ S n nx p ln bb low high hp hpr hw (fun r hr => ⟨by rw [sp_judge, if_neg (fun q => q (lg0.mp c1)), if_neg (fun q => c2 (bI_f (fun z => by rw [q] at z; cases z))), hr], rfl, rfl⟩)
    · refine mj_r_pure rfl rfl ?_
      exact mj_r_iret rfl rfl rfl ⟨by rw [sp_judge, if_neg (fun q => q (lg0.mp c1)), if_pos (by have := bI_0.mp c2; cases hb : allB (sp_way S) n with | false => rfl | true => exact absurd hb this)], rfl, rfl⟩
  · refine mj_r_pure rfl rfl ?_
    exact mj_r_iret rfl rfl rfl ⟨by rw [sp_judge, if_pos (fun q => c1 (lg0.mpr q))], rfl, rfl⟩
