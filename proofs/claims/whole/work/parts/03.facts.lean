/-! what the tables say, by places: by program (wip/whole/gen_names.py) -/
def mj_xb (lc : List (Nat × Int64)) (e : Nat × Instr × Nat × Value × Nat) : Bool :=
  decide (e.2.2.2.2 = e.1 + e.2.2.1) && match e.2.1 with
  | .iconst n => decide (e.2.2.2.1 = .int (Int32.ofInt n))
  | .bipush n => decide (e.2.2.2.1 = .int (Int8.ofInt n).toInt32)
  | .sipush n => decide (e.2.2.2.1 = .int (Int16.ofInt n).toInt32)
  | .lconst n => decide (e.2.2.2.1 = .long (Int64.ofNat n))
  | .ldc2_w i => lc.any (fun q => decide (q.1 = i) && decide (e.2.2.2.1 = .long q.2))
  | .iinc _ n => decide (e.2.2.2.1 = .int (Int32.ofInt n))
  | .goto o => match e.2.2.2.1 with | .retAddr t => decide ((e.1 : Int) + o = t) | _ => false
  | .ifCond _ o => match e.2.2.2.1 with | .retAddr t => decide ((e.1 : Int) + o = t) | _ => false
  | .if_icmp _ o => match e.2.2.2.1 with | .retAddr t => decide ((e.1 : Int) + o = t) | _ => false
  | .ifnull o => match e.2.2.2.1 with | .retAddr t => decide ((e.1 : Int) + o = t) | _ => false
  | .ifnonnull o => match e.2.2.2.1 with | .retAddr t => decide ((e.1 : Int) + o = t) | _ => false
  | _ => true
def mj_fw (own : String) (e : Nat × Bool × Nat × Nat) : Option Cond :=
  match mj_cl[e.2.2.1]? with
  | some r => if e.2.2.2 < r.2.2 then some (if e.2.1 = true then .fieldLinkNest own e.1 r.1 (r.2.1 e.2.2.2).2.1 (r.2.1 e.2.2.2).2.2.1 "DisputeHalving" else .fieldLink own e.1 r.1 (r.2.1 e.2.2.2).2.1 (r.2.1 e.2.2.2).2.2.1) else none
  | none => none
def mj_lw (own : String) (e : Nat × Int64) : Option Cond := some (.constantLong own e.1 e.2)
def mj_cw (own : String) (e : Nat × Nat) : Option Cond :=
  match mj_cl[e.2]? with
  | some r => some (.classLink own e.1 r.1)
  | none => none
theorem mj_bulk {α : Type} {l : List α} {f : α → Option Cond} {ps : List Nat} (h : l.map f = ps.map (fun i => tables_1[i]?)) (hs : l.all (fun e => (f e).isSome) = true) : ∀ e ∈ l, ∃ w, f e = some w ∧ w ∈ tables_1 := by
  intro e he
  have h1 := List.all_eq_true.mp hs e he
  obtain ⟨w, hw⟩ := Option.isSome_iff_exists.mp h1
  refine ⟨w, hw, ?_⟩
  have h2 : some w ∈ l.map f := List.mem_map.mpr ⟨e, he, hw⟩
  rw [h] at h2
  obtain ⟨i, -, hi⟩ := List.mem_map.mp h2
  exact List.mem_of_getElem? hi
def mj_ok (M : mj_M) : Prop :=
  (∀ e ∈ mj_tab M, decode (mj_cc M) e.1 = .ok (e.2.1, e.2.2.1) ∧ mj_xb (mj_lc M) e = true) ∧ (∀ e ∈ mj_fl M, ∃ w, mj_fw (mj_own M) e = some w ∧ w ∈ tables_1) ∧ (∀ e ∈ mj_lc M, ∃ w, mj_lw (mj_own M) e = some w ∧ w ∈ tables_1) ∧ (∀ e ∈ mj_cl2 M, ∃ w, mj_cw (mj_own M) e = some w ∧ w ∈ tables_1)
/-- a method that is called: n parameters -/
def mj_ck (M : mj_M) (n : Nat) : Prop := Cond.code (mj_y M) (mj_cc M) (mj_nL M) (mj_ret M) ∈ mj_G ∧ Cond.initialized (mj_y M).cls ∈ mj_G ∧ ((mj_y M).cls ≠ "java/lang/invoke/MethodHandle" ∧ (mj_y M).cls ≠ "java/lang/invoke/VarHandle" ∧ (parseMethodDescriptor (mj_y M).desc).map (fun d => d.parameters.length) = some n) ∧ plainName (mj_y M).cls = true ∧ (mj_y M).cls = mj_own M
def mj_iv (M : mj_M) : Prop := Cond.instanceMethod (mj_y M) ∈ mj_G ∧ Cond.selects (mj_y M).cls (mj_y M) (mj_y M) ∈ mj_G
set_option maxRecDepth 100000 in
theorem fk_Batch : ∀ e ∈ fl_Batch, ∃ w, mj_fw RX0 e = some w ∧ w ∈ tables_1 := mj_bulk (ps := [210, 205, 208]) (by rfl) (by decide +kernel)
set_option maxRecDepth 100000 in
theorem lk_Batch : ∀ e ∈ lc_Batch, ∃ w, mj_lw RX0 e = some w ∧ w ∈ tables_1 := mj_bulk (ps := []) (by rfl) (by decide +kernel)
set_option maxRecDepth 100000 in
theorem ci_Batch : ∀ e ∈ cl_Batch, ∃ w, mj_cw RX0 e = some w ∧ w ∈ tables_1 := mj_bulk (ps := []) (by rfl) (by decide +kernel)
set_option maxRecDepth 100000 in
theorem fk_Claim : ∀ e ∈ fl_Claim, ∃ w, mj_fw RX1 e = some w ∧ w ∈ tables_1 := mj_bulk (ps := [319, 322, 309, 312, 315, 317, 325]) (by rfl) (by decide +kernel)
set_option maxRecDepth 100000 in
theorem lk_Claim : ∀ e ∈ lc_Claim, ∃ w, mj_lw RX1 e = some w ∧ w ∈ tables_1 := mj_bulk (ps := []) (by rfl) (by decide +kernel)
set_option maxRecDepth 100000 in
theorem ci_Claim : ∀ e ∈ cl_Claim, ∃ w, mj_cw RX1 e = some w ∧ w ∈ tables_1 := mj_bulk (ps := []) (by rfl) (by decide +kernel)
set_option maxRecDepth 100000 in
theorem fk_Court : ∀ e ∈ fl_Court, ∃ w, mj_fw RX2 e = some w ∧ w ∈ tables_1 := mj_bulk (ps := [116, 118, 119, 121, 122, 123, 124, 370, 320, 313, 323, 367, 326, 364, 310, 385, 388]) (by rfl) (by decide +kernel)
set_option maxRecDepth 100000 in
theorem lk_Court : ∀ e ∈ lc_Court, ∃ w, mj_lw RX2 e = some w ∧ w ∈ tables_1 := mj_bulk (ps := []) (by rfl) (by decide +kernel)
set_option maxRecDepth 100000 in
theorem ci_Court : ∀ e ∈ cl_Court, ∃ w, mj_cw RX2 e = some w ∧ w ∈ tables_1 := mj_bulk (ps := [108, 110]) (by rfl) (by decide +kernel)
set_option maxRecDepth 100000 in
theorem fk_Dispute : ∀ e ∈ fl_Dispute, ∃ w, mj_fw RX3 e = some w ∧ w ∈ tables_1 := mj_bulk (ps := [369, 372, 380, 382, 384, 387, 390, 363, 366, 374, 376, 318, 378]) (by rfl) (by decide +kernel)
set_option maxRecDepth 100000 in
theorem lk_Dispute : ∀ e ∈ lc_Dispute, ∃ w, mj_lw RX3 e = some w ∧ w ∈ tables_1 := mj_bulk (ps := []) (by rfl) (by decide +kernel)
set_option maxRecDepth 100000 in
theorem ci_Dispute : ∀ e ∈ cl_Dispute, ∃ w, mj_cw RX3 e = some w ∧ w ∈ tables_1 := mj_bulk (ps := []) (by rfl) (by decide +kernel)
set_option maxRecDepth 100000 in
theorem fk_Instruction : ∀ e ∈ fl_Instruction, ∃ w, mj_fw RX4 e = some w ∧ w ∈ tables_1 := mj_bulk (ps := [173, 176, 179, 182]) (by rfl) (by decide +kernel)
set_option maxRecDepth 100000 in
theorem lk_Instruction : ∀ e ∈ lc_Instruction, ∃ w, mj_lw RX4 e = some w ∧ w ∈ tables_1 := mj_bulk (ps := []) (by rfl) (by decide +kernel)
set_option maxRecDepth 100000 in
theorem ci_Instruction : ∀ e ∈ cl_Instruction, ∃ w, mj_cw RX4 e = some w ∧ w ∈ tables_1 := mj_bulk (ps := []) (by rfl) (by decide +kernel)
set_option maxRecDepth 100000 in
theorem fk_Machine : ∀ e ∈ fl_Machine, ∃ w, mj_fw RX5 e = some w ∧ w ∈ tables_1 := mj_bulk (ps := [44, 46, 48, 50, 211, 206, 177, 180, 174]) (by rfl) (by decide +kernel)
set_option maxRecDepth 100000 in
theorem lk_Machine : ∀ e ∈ lc_Machine, ∃ w, mj_lw RX5 e = some w ∧ w ∈ tables_1 := mj_bulk (ps := []) (by rfl) (by decide +kernel)
set_option maxRecDepth 100000 in
theorem ci_Machine : ∀ e ∈ cl_Machine, ∃ w, mj_cw RX5 e = some w ∧ w ∈ tables_1 := mj_bulk (ps := []) (by rfl) (by decide +kernel)
set_option maxRecDepth 100000 in
theorem fk_OnPaper : ∀ e ∈ fl_OnPaper, ∃ w, mj_fw RX6 e = some w ∧ w ∈ tables_1 := mj_bulk (ps := [76, 78, 80]) (by rfl) (by decide +kernel)
set_option maxRecDepth 100000 in
theorem lk_OnPaper : ∀ e ∈ lc_OnPaper, ∃ w, mj_lw RX6 e = some w ∧ w ∈ tables_1 := mj_bulk (ps := []) (by rfl) (by decide +kernel)
set_option maxRecDepth 100000 in
theorem ci_OnPaper : ∀ e ∈ cl_OnPaper, ∃ w, mj_cw RX6 e = some w ∧ w ∈ tables_1 := mj_bulk (ps := []) (by rfl) (by decide +kernel)
set_option maxRecDepth 100000 in
theorem fk_Paper : ∀ e ∈ fl_Paper, ∃ w, mj_fw RX7 e = some w ∧ w ∈ tables_1 := mj_bulk (ps := [88, 89, 90, 92, 77, 79, 178, 181, 175]) (by rfl) (by decide +kernel)
set_option maxRecDepth 100000 in
theorem lk_Paper : ∀ e ∈ lc_Paper, ∃ w, mj_lw RX7 e = some w ∧ w ∈ tables_1 := mj_bulk (ps := []) (by rfl) (by decide +kernel)
set_option maxRecDepth 100000 in
theorem ci_Paper : ∀ e ∈ cl_Paper, ∃ w, mj_cw RX7 e = some w ∧ w ∈ tables_1 := mj_bulk (ps := [69]) (by rfl) (by decide +kernel)
set_option maxRecDepth 100000 in
theorem fk_Program : ∀ e ∈ fl_Program, ∃ w, mj_fw RX8 e = some w ∧ w ∈ tables_1 := mj_bulk (ps := [30, 31]) (by rfl) (by decide +kernel)
set_option maxRecDepth 100000 in
theorem lk_Program : ∀ e ∈ lc_Program, ∃ w, mj_lw RX8 e = some w ∧ w ∈ tables_1 := mj_bulk (ps := []) (by rfl) (by decide +kernel)
set_option maxRecDepth 100000 in
theorem ci_Program : ∀ e ∈ cl_Program, ∃ w, mj_cw RX8 e = some w ∧ w ∈ tables_1 := mj_bulk (ps := [28]) (by rfl) (by decide +kernel)
set_option maxRecDepth 100000 in
theorem fk_Top : ∀ e ∈ fl_Top, ∃ w, mj_fw RX9 e = some w ∧ w ∈ tables_1 := mj_bulk (ps := [141, 142, 143, 144, 145, 146, 32, 49, 51, 45, 47, 316, 209, 375, 373, 91, 368, 391, 207, 377, 379, 125, 314, 321, 324, 365, 311, 371, 386, 389, 381, 383, 117, 120]) (by rfl) (by decide +kernel)
set_option maxRecDepth 100000 in
theorem lk_Top : ∀ e ∈ lc_Top, ∃ w, mj_lw RX9 e = some w ∧ w ∈ tables_1 := mj_bulk (ps := [278, 279]) (by rfl) (by decide +kernel)
set_option maxRecDepth 100000 in
theorem ci_Top : ∀ e ∈ cl_Top, ∃ w, mj_cw RX9 e = some w ∧ w ∈ tables_1 := mj_bulk (ps := [20, 22, 38, 63, 102, 167]) (by rfl) (by decide +kernel)
set_option maxRecDepth 100000 in
theorem fk_Ref : ∀ e ∈ fl_Ref, ∃ w, mj_fw RX10 e = some w ∧ w ∈ tables_1 := mj_bulk (ps := [601, 602, 603, 604, 607, 608, 609, 610, 613, 615, 617, 618, 619, 620, 621, 623, 624, 625, 626, 627, 628, 629, 630, 631, 632, 633, 634, 638, 639, 640, 606, 605, 611, 612, 616, 622, 614, 635, 636, 637]) (by rfl) (by decide +kernel)
set_option maxRecDepth 100000 in
theorem lk_Ref : ∀ e ∈ lc_Ref, ∃ w, mj_lw RX10 e = some w ∧ w ∈ tables_1 := mj_bulk (ps := [775, 776, 758, 771]) (by rfl) (by decide +kernel)
set_option maxRecDepth 100000 in
theorem ci_Ref : ∀ e ∈ cl_Ref, ∃ w, mj_cw RX10 e = some w ∧ w ∈ tables_1 := mj_bulk (ps := []) (by rfl) (by decide +kernel)
set_option maxRecDepth 100000 in
theorem fk_Law : ∀ e ∈ fl_Law, ∃ w, mj_fw RL e = some w ∧ w ∈ tables_1 := mj_bulk (ps := []) (by rfl) (by decide +kernel)
set_option maxRecDepth 100000 in
theorem lk_Law : ∀ e ∈ lc_Law, ∃ w, mj_lw RL e = some w ∧ w ∈ tables_1 := mj_bulk (ps := [892]) (by rfl) (by decide +kernel)
set_option maxRecDepth 100000 in
theorem ci_Law : ∀ e ∈ cl_Law, ∃ w, mj_cw RL e = some w ∧ w ∈ tables_1 := mj_bulk (ps := [12, 595]) (by rfl) (by decide +kernel)
/-- a class of the list, as the tables have it -/
def mj_kok (r : vw_C) : Prop := (∀ w ∈ u_ws r.1 r.2.1 r.2.2, w ∈ mj_G) ∧ Cond.instantiable r.1 r.2.2 ∈ mj_G ∧ Cond.initialized r.1 ∈ mj_G ∧ (∃ ty : Nat → FieldType, ∀ k, k < r.2.2 → parseFieldDescriptor (r.2.1 k).2.2.1 = some (ty k)) ∧ (∀ a, a < r.2.2 → ∀ b, b < r.2.2 → a ≠ b → (r.2.1 a).2.1 ≠ (r.2.1 b).2.1) ∧ ∀ k, k < r.2.2 → (r.2.1 k).1 = r.1
theorem mj_sub {l : List Cond} {ps : List Nat} (h : l.map some = ps.map (fun i => tables_1[i]?)) (g : l.all goodWord = true) : ∀ w ∈ l, w ∈ mj_G := by
  intro w hw
  have h2 : some w ∈ l.map some := List.mem_map.mpr ⟨w, hw, rfl⟩
  rw [h] at h2
  obtain ⟨i, -, hi⟩ := List.mem_map.mp h2
  exact mj_inG i hi (List.all_eq_true.mp g w hw)
set_option maxRecDepth 100000 in
theorem ko_0 : mj_kok (RX0, TX0, 3) := ⟨mj_sub (ps := [212, 214, 216]) (by rfl) (by decide +kernel), mj_inG 200 (by rfl) (by rfl), mj_inG 9 (by rfl) (by rfl), ⟨tyX0, tyX0_ok⟩, nmX0, by decide +kernel⟩
set_option maxRecDepth 100000 in
theorem ko_1 : mj_kok (RX1, TX1, 7) := ⟨mj_sub (ps := [327, 329, 331, 333, 335, 337, 339]) (by rfl) (by decide +kernel), mj_inG 304 (by rfl) (by rfl), mj_inG 10 (by rfl) (by rfl), ⟨tyX1, tyX1_ok⟩, nmX1, by decide +kernel⟩
set_option maxRecDepth 100000 in
theorem ko_2 : mj_kok (RX2, TX2, 7) := ⟨mj_sub (ps := [126, 128, 130, 132, 134, 136, 138]) (by rfl) (by decide +kernel), mj_inG 103 (by rfl) (by rfl), mj_inG 6 (by rfl) (by rfl), ⟨tyX2, tyX2_ok⟩, nmX2, by decide +kernel⟩
set_option maxRecDepth 100000 in
theorem ko_3 : mj_kok (RX3, TX3, 12) := ⟨mj_sub (ps := [392, 394, 396, 398, 400, 402, 404, 406, 408, 410, 412, 414]) (by rfl) (by decide +kernel), mj_inG 358 (by rfl) (by rfl), mj_inG 11 (by rfl) (by rfl), ⟨tyX3, tyX3_ok⟩, nmX3, by decide +kernel⟩
set_option maxRecDepth 100000 in
theorem ko_4 : mj_kok (RX4, TX4, 4) := ⟨mj_sub (ps := [183, 185, 187, 189]) (by rfl) (by decide +kernel), mj_inG 168 (by rfl) (by rfl), mj_inG 8 (by rfl) (by rfl), ⟨tyX4, tyX4_ok⟩, nmX4, by decide +kernel⟩
set_option maxRecDepth 100000 in
theorem ko_5 : mj_kok (RX5, TX5, 4) := ⟨mj_sub (ps := [52, 54, 56, 58]) (by rfl) (by decide +kernel), mj_inG 39 (by rfl) (by rfl), mj_inG 3 (by rfl) (by rfl), ⟨tyX5, tyX5_ok⟩, nmX5, by decide +kernel⟩
set_option maxRecDepth 100000 in
theorem ko_6 : mj_kok (RX6, TX6, 3) := ⟨mj_sub (ps := [81, 83, 85]) (by rfl) (by decide +kernel), mj_inG 71 (by rfl) (by rfl), mj_inG 5 (by rfl) (by rfl), ⟨tyX6, tyX6_ok⟩, nmX6, by decide +kernel⟩
set_option maxRecDepth 100000 in
theorem ko_7 : mj_kok (RX7, TX7, 4) := ⟨mj_sub (ps := [93, 95, 97, 99]) (by rfl) (by decide +kernel), mj_inG 64 (by rfl) (by rfl), mj_inG 4 (by rfl) (by rfl), ⟨tyX7, tyX7_ok⟩, nmX7, by decide +kernel⟩
set_option maxRecDepth 100000 in
theorem ko_8 : mj_kok (RX8, TX8, 2) := ⟨mj_sub (ps := [33, 35]) (by rfl) (by decide +kernel), mj_inG 23 (by rfl) (by rfl), mj_inG 2 (by rfl) (by rfl), ⟨tyX8, tyX8_ok⟩, nmX8, by decide +kernel⟩
set_option maxRecDepth 100000 in
theorem ko_9 : mj_kok (RX9, TX9, 6) := ⟨mj_sub (ps := [147, 149, 151, 153, 155, 157]) (by rfl) (by decide +kernel), mj_inG 13 (by rfl) (by rfl), mj_inG 1 (by rfl) (by rfl), ⟨tyX9, tyX9_ok⟩, nmX9, by decide +kernel⟩
set_option maxRecDepth 100000 in
theorem ko_10 : mj_kok (RX10, TX10, 40) := ⟨mj_sub (ps := [641, 643, 645, 647, 649, 651, 653, 655, 657, 659, 661, 663, 665, 667, 669, 671, 673, 675, 677, 679, 681, 683, 685, 687, 689, 691, 693, 695, 697, 699, 701, 703, 705, 707, 709, 711, 713, 715, 717, 719]) (by rfl) (by decide +kernel), mj_inG 596 (by rfl) (by rfl), mj_inG 7 (by rfl) (by rfl), ⟨tyX10, tyX10_ok⟩, nmX10, by decide +kernel⟩
theorem mj_kk {ci : Nat} {r : vw_C} (h : mj_cl[ci]? = some r) : mj_kok r := by
  match ci, h with
  | 0, h => cases h; exact ko_0
  | 1, h => cases h; exact ko_1
  | 2, h => cases h; exact ko_2
  | 3, h => cases h; exact ko_3
  | 4, h => cases h; exact ko_4
  | 5, h => cases h; exact ko_5
  | 6, h => cases h; exact ko_6
  | 7, h => cases h; exact ko_7
  | 8, h => cases h; exact ko_8
  | 9, h => cases h; exact ko_9
  | 10, h => cases h; exact ko_10
  | k + 11, h => exact absurd h (by simp [mj_cl])
theorem dc_Program_init : ∀ e ∈ tb_Program_init, decode (mj_cc me_Program_init) e.1 = .ok (e.2.1, e.2.2.1) ∧ mj_xb lc_Program e = true := by decide +kernel
theorem ok_Program_init : mj_ok me_Program_init := ⟨dc_Program_init, fk_Program, lk_Program, ci_Program⟩
set_option maxRecDepth 100000 in
theorem ck_Program_init : mj_ck me_Program_init 0 := ⟨mj_inG 26 (by rfl) (by rfl), mj_inG 2 (by rfl) (by rfl), by decide +kernel, by decide +kernel, rfl⟩
set_option maxRecDepth 100000 in
theorem iv_Program_init : Cond.instanceMethod (mj_y me_Program_init) ∈ mj_G := mj_inG 25 (by rfl) (by rfl)
theorem dc_Machine_init : ∀ e ∈ tb_Machine_init, decode (mj_cc me_Machine_init) e.1 = .ok (e.2.1, e.2.2.1) ∧ mj_xb lc_Machine e = true := by decide +kernel
theorem ok_Machine_init : mj_ok me_Machine_init := ⟨dc_Machine_init, fk_Machine, lk_Machine, ci_Machine⟩
set_option maxRecDepth 100000 in
theorem ck_Machine_init : mj_ck me_Machine_init 0 := ⟨mj_inG 42 (by rfl) (by rfl), mj_inG 3 (by rfl) (by rfl), by decide +kernel, by decide +kernel, rfl⟩
set_option maxRecDepth 100000 in
theorem iv_Machine_init : Cond.instanceMethod (mj_y me_Machine_init) ∈ mj_G := mj_inG 41 (by rfl) (by rfl)
theorem dc_OnPaper_init : ∀ e ∈ tb_OnPaper_init, decode (mj_cc me_OnPaper_init) e.1 = .ok (e.2.1, e.2.2.1) ∧ mj_xb lc_OnPaper e = true := by decide +kernel
theorem ok_OnPaper_init : mj_ok me_OnPaper_init := ⟨dc_OnPaper_init, fk_OnPaper, lk_OnPaper, ci_OnPaper⟩
set_option maxRecDepth 100000 in
theorem ck_OnPaper_init : mj_ck me_OnPaper_init 0 := ⟨mj_inG 74 (by rfl) (by rfl), mj_inG 5 (by rfl) (by rfl), by decide +kernel, by decide +kernel, rfl⟩
set_option maxRecDepth 100000 in
theorem iv_OnPaper_init : Cond.instanceMethod (mj_y me_OnPaper_init) ∈ mj_G := mj_inG 73 (by rfl) (by rfl)
theorem dc_Paper_init : ∀ e ∈ tb_Paper_init, decode (mj_cc me_Paper_init) e.1 = .ok (e.2.1, e.2.2.1) ∧ mj_xb lc_Paper e = true := by decide +kernel
theorem ok_Paper_init : mj_ok me_Paper_init := ⟨dc_Paper_init, fk_Paper, lk_Paper, ci_Paper⟩
set_option maxRecDepth 100000 in
theorem ck_Paper_init : mj_ck me_Paper_init 0 := ⟨mj_inG 67 (by rfl) (by rfl), mj_inG 4 (by rfl) (by rfl), by decide +kernel, by decide +kernel, rfl⟩
set_option maxRecDepth 100000 in
theorem iv_Paper_init : Cond.instanceMethod (mj_y me_Paper_init) ∈ mj_G := mj_inG 66 (by rfl) (by rfl)
theorem dc_Court_restart : ∀ e ∈ tb_Court_restart, decode (mj_cc me_Court_restart) e.1 = .ok (e.2.1, e.2.2.1) ∧ mj_xb lc_Court e = true := by decide +kernel
theorem ok_Court_restart : mj_ok me_Court_restart := ⟨dc_Court_restart, fk_Court, lk_Court, ci_Court⟩
set_option maxRecDepth 100000 in
theorem ck_Court_restart : mj_ck me_Court_restart 0 := ⟨mj_inG 115 (by rfl) (by rfl), mj_inG 6 (by rfl) (by rfl), by decide +kernel, by decide +kernel, rfl⟩
set_option maxRecDepth 100000 in
theorem iv_Court_restart : mj_iv me_Court_restart := ⟨mj_inG 113 (by rfl) (by rfl), mj_inG 114 (by rfl) (by rfl)⟩
theorem dc_Court_init : ∀ e ∈ tb_Court_init, decode (mj_cc me_Court_init) e.1 = .ok (e.2.1, e.2.2.1) ∧ mj_xb lc_Court e = true := by decide +kernel
theorem ok_Court_init : mj_ok me_Court_init := ⟨dc_Court_init, fk_Court, lk_Court, ci_Court⟩
set_option maxRecDepth 100000 in
theorem ck_Court_init : mj_ck me_Court_init 0 := ⟨mj_inG 106 (by rfl) (by rfl), mj_inG 6 (by rfl) (by rfl), by decide +kernel, by decide +kernel, rfl⟩
set_option maxRecDepth 100000 in
theorem iv_Court_init : Cond.instanceMethod (mj_y me_Court_init) ∈ mj_G := mj_inG 105 (by rfl) (by rfl)
theorem dc_Top_init : ∀ e ∈ tb_Top_init, decode (mj_cc me_Top_init) e.1 = .ok (e.2.1, e.2.2.1) ∧ mj_xb lc_Top e = true := by decide +kernel
theorem ok_Top_init : mj_ok me_Top_init := ⟨dc_Top_init, fk_Top, lk_Top, ci_Top⟩
set_option maxRecDepth 100000 in
theorem ck_Top_init : mj_ck me_Top_init 0 := ⟨mj_inG 16 (by rfl) (by rfl), mj_inG 1 (by rfl) (by rfl), by decide +kernel, by decide +kernel, rfl⟩
set_option maxRecDepth 100000 in
theorem iv_Top_init : Cond.instanceMethod (mj_y me_Top_init) ∈ mj_G := mj_inG 15 (by rfl) (by rfl)
theorem dc_Top_isCell : ∀ e ∈ tb_Top_isCell, decode (mj_cc me_Top_isCell) e.1 = .ok (e.2.1, e.2.2.1) ∧ mj_xb lc_Top e = true := by decide +kernel
theorem ok_Top_isCell : mj_ok me_Top_isCell := ⟨dc_Top_isCell, fk_Top, lk_Top, ci_Top⟩
set_option maxRecDepth 100000 in
theorem ck_Top_isCell : mj_ck me_Top_isCell 1 := ⟨mj_inG 166 (by rfl) (by rfl), mj_inG 1 (by rfl) (by rfl), by decide +kernel, by decide +kernel, rfl⟩
set_option maxRecDepth 100000 in
theorem iv_Top_isCell : Cond.static (mj_y me_Top_isCell) ∈ mj_G := mj_inG 165 (by rfl) (by rfl)
theorem dc_Instruction_init : ∀ e ∈ tb_Instruction_init, decode (mj_cc me_Instruction_init) e.1 = .ok (e.2.1, e.2.2.1) ∧ mj_xb lc_Instruction e = true := by decide +kernel
theorem ok_Instruction_init : mj_ok me_Instruction_init := ⟨dc_Instruction_init, fk_Instruction, lk_Instruction, ci_Instruction⟩
set_option maxRecDepth 100000 in
theorem ck_Instruction_init : mj_ck me_Instruction_init 4 := ⟨mj_inG 171 (by rfl) (by rfl), mj_inG 8 (by rfl) (by rfl), by decide +kernel, by decide +kernel, rfl⟩
set_option maxRecDepth 100000 in
theorem iv_Instruction_init : Cond.instanceMethod (mj_y me_Instruction_init) ∈ mj_G := mj_inG 170 (by rfl) (by rfl)
theorem dc_Program_append : ∀ e ∈ tb_Program_append, decode (mj_cc me_Program_append) e.1 = .ok (e.2.1, e.2.2.1) ∧ mj_xb lc_Program e = true := by decide +kernel
theorem ok_Program_append : mj_ok me_Program_append := ⟨dc_Program_append, fk_Program, lk_Program, ci_Program⟩
set_option maxRecDepth 100000 in
theorem ck_Program_append : mj_ck me_Program_append 1 := ⟨mj_inG 195 (by rfl) (by rfl), mj_inG 2 (by rfl) (by rfl), by decide +kernel, by decide +kernel, rfl⟩
set_option maxRecDepth 100000 in
theorem iv_Program_append : mj_iv me_Program_append := ⟨mj_inG 193 (by rfl) (by rfl), mj_inG 194 (by rfl) (by rfl)⟩
theorem dc_Top_instruction : ∀ e ∈ tb_Top_instruction, decode (mj_cc me_Top_instruction) e.1 = .ok (e.2.1, e.2.2.1) ∧ mj_xb lc_Top e = true := by decide +kernel
theorem ok_Top_instruction : mj_ok me_Top_instruction := ⟨dc_Top_instruction, fk_Top, lk_Top, ci_Top⟩
set_option maxRecDepth 100000 in
theorem ck_Top_instruction : mj_ck me_Top_instruction 4 := ⟨mj_inG 163 (by rfl) (by rfl), mj_inG 1 (by rfl) (by rfl), by decide +kernel, by decide +kernel, rfl⟩
set_option maxRecDepth 100000 in
theorem iv_Top_instruction : mj_iv me_Top_instruction := ⟨mj_inG 161 (by rfl) (by rfl), mj_inG 162 (by rfl) (by rfl)⟩
theorem dc_Batch_init : ∀ e ∈ tb_Batch_init, decode (mj_cc me_Batch_init) e.1 = .ok (e.2.1, e.2.2.1) ∧ mj_xb lc_Batch e = true := by decide +kernel
theorem ok_Batch_init : mj_ok me_Batch_init := ⟨dc_Batch_init, fk_Batch, lk_Batch, ci_Batch⟩
set_option maxRecDepth 100000 in
theorem ck_Batch_init : mj_ck me_Batch_init 2 := ⟨mj_inG 203 (by rfl) (by rfl), mj_inG 9 (by rfl) (by rfl), by decide +kernel, by decide +kernel, rfl⟩
set_option maxRecDepth 100000 in
theorem iv_Batch_init : Cond.instanceMethod (mj_y me_Batch_init) ∈ mj_G := mj_inG 202 (by rfl) (by rfl)
theorem dc_Batch_setFirst : ∀ e ∈ tb_Batch_setFirst, decode (mj_cc me_Batch_setFirst) e.1 = .ok (e.2.1, e.2.2.1) ∧ mj_xb lc_Batch e = true := by decide +kernel
theorem ok_Batch_setFirst : mj_ok me_Batch_setFirst := ⟨dc_Batch_setFirst, fk_Batch, lk_Batch, ci_Batch⟩
set_option maxRecDepth 100000 in
theorem ck_Batch_setFirst : mj_ck me_Batch_setFirst 4 := ⟨mj_inG 222 (by rfl) (by rfl), mj_inG 9 (by rfl) (by rfl), by decide +kernel, by decide +kernel, rfl⟩
set_option maxRecDepth 100000 in
theorem iv_Batch_setFirst : mj_iv me_Batch_setFirst := ⟨mj_inG 220 (by rfl) (by rfl), mj_inG 221 (by rfl) (by rfl)⟩
theorem dc_Top_batch : ∀ e ∈ tb_Top_batch, decode (mj_cc me_Top_batch) e.1 = .ok (e.2.1, e.2.2.1) ∧ mj_xb lc_Top e = true := by decide +kernel
theorem ok_Top_batch : mj_ok me_Top_batch := ⟨dc_Top_batch, fk_Top, lk_Top, ci_Top⟩
set_option maxRecDepth 100000 in
theorem ck_Top_batch : mj_ck me_Top_batch 5 := ⟨mj_inG 199 (by rfl) (by rfl), mj_inG 1 (by rfl) (by rfl), by decide +kernel, by decide +kernel, rfl⟩
set_option maxRecDepth 100000 in
theorem iv_Top_batch : mj_iv me_Top_batch := ⟨mj_inG 197 (by rfl) (by rfl), mj_inG 198 (by rfl) (by rfl)⟩
theorem dc_Top_batchAt : ∀ e ∈ tb_Top_batchAt, decode (mj_cc me_Top_batchAt) e.1 = .ok (e.2.1, e.2.2.1) ∧ mj_xb lc_Top e = true := by decide +kernel
theorem ok_Top_batchAt : mj_ok me_Top_batchAt := ⟨dc_Top_batchAt, fk_Top, lk_Top, ci_Top⟩
set_option maxRecDepth 100000 in
theorem ck_Top_batchAt : mj_ck me_Top_batchAt 1 := ⟨mj_inG 234 (by rfl) (by rfl), mj_inG 1 (by rfl) (by rfl), by decide +kernel, by decide +kernel, rfl⟩
set_option maxRecDepth 100000 in
theorem iv_Top_batchAt : mj_iv me_Top_batchAt := ⟨mj_inG 233 (by rfl) (by rfl), mj_inP 1 (by rfl) (by rfl)⟩
theorem dc_Machine_begin : ∀ e ∈ tb_Machine_begin, decode (mj_cc me_Machine_begin) e.1 = .ok (e.2.1, e.2.2.1) ∧ mj_xb lc_Machine e = true := by decide +kernel
theorem ok_Machine_begin : mj_ok me_Machine_begin := ⟨dc_Machine_begin, fk_Machine, lk_Machine, ci_Machine⟩
set_option maxRecDepth 100000 in
theorem ck_Machine_begin : mj_ck me_Machine_begin 1 := ⟨mj_inG 242 (by rfl) (by rfl), mj_inG 3 (by rfl) (by rfl), by decide +kernel, by decide +kernel, rfl⟩
set_option maxRecDepth 100000 in
theorem iv_Machine_begin : mj_iv me_Machine_begin := ⟨mj_inG 241 (by rfl) (by rfl), mj_inP 2 (by rfl) (by rfl)⟩
theorem dc_Program_lineAt : ∀ e ∈ tb_Program_lineAt, decode (mj_cc me_Program_lineAt) e.1 = .ok (e.2.1, e.2.2.1) ∧ mj_xb lc_Program e = true := by decide +kernel
theorem ok_Program_lineAt : mj_ok me_Program_lineAt := ⟨dc_Program_lineAt, fk_Program, lk_Program, ci_Program⟩
set_option maxRecDepth 100000 in
theorem ck_Program_lineAt : mj_ck me_Program_lineAt 1 := ⟨mj_inG 246 (by rfl) (by rfl), mj_inG 2 (by rfl) (by rfl), by decide +kernel, by decide +kernel, rfl⟩
set_option maxRecDepth 100000 in
theorem iv_Program_lineAt : mj_iv me_Program_lineAt := ⟨mj_inG 244 (by rfl) (by rfl), mj_inG 245 (by rfl) (by rfl)⟩
theorem dc_Instruction_toldCell : ∀ e ∈ tb_Instruction_toldCell, decode (mj_cc me_Instruction_toldCell) e.1 = .ok (e.2.1, e.2.2.1) ∧ mj_xb lc_Instruction e = true := by decide +kernel
theorem ok_Instruction_toldCell : mj_ok me_Instruction_toldCell := ⟨dc_Instruction_toldCell, fk_Instruction, lk_Instruction, ci_Instruction⟩
set_option maxRecDepth 100000 in
theorem ck_Instruction_toldCell : mj_ck me_Instruction_toldCell 2 := ⟨mj_inG 254 (by rfl) (by rfl), mj_inG 8 (by rfl) (by rfl), by decide +kernel, by decide +kernel, rfl⟩
set_option maxRecDepth 100000 in
theorem iv_Instruction_toldCell : mj_iv me_Instruction_toldCell := ⟨mj_inG 252 (by rfl) (by rfl), mj_inG 253 (by rfl) (by rfl)⟩
theorem dc_Instruction_writes : ∀ e ∈ tb_Instruction_writes, decode (mj_cc me_Instruction_writes) e.1 = .ok (e.2.1, e.2.2.1) ∧ mj_xb lc_Instruction e = true := by decide +kernel
theorem ok_Instruction_writes : mj_ok me_Instruction_writes := ⟨dc_Instruction_writes, fk_Instruction, lk_Instruction, ci_Instruction⟩
set_option maxRecDepth 100000 in
theorem ck_Instruction_writes : mj_ck me_Instruction_writes 0 := ⟨mj_inG 258 (by rfl) (by rfl), mj_inG 8 (by rfl) (by rfl), by decide +kernel, by decide +kernel, rfl⟩
set_option maxRecDepth 100000 in
theorem iv_Instruction_writes : mj_iv me_Instruction_writes := ⟨mj_inG 256 (by rfl) (by rfl), mj_inG 257 (by rfl) (by rfl)⟩
theorem dc_Instruction_result : ∀ e ∈ tb_Instruction_result, decode (mj_cc me_Instruction_result) e.1 = .ok (e.2.1, e.2.2.1) ∧ mj_xb lc_Instruction e = true := by decide +kernel
theorem ok_Instruction_result : mj_ok me_Instruction_result := ⟨dc_Instruction_result, fk_Instruction, lk_Instruction, ci_Instruction⟩
set_option maxRecDepth 100000 in
theorem ck_Instruction_result : mj_ck me_Instruction_result 3 := ⟨mj_inG 262 (by rfl) (by rfl), mj_inG 8 (by rfl) (by rfl), by decide +kernel, by decide +kernel, rfl⟩
set_option maxRecDepth 100000 in
theorem iv_Instruction_result : mj_iv me_Instruction_result := ⟨mj_inG 260 (by rfl) (by rfl), mj_inG 261 (by rfl) (by rfl)⟩
theorem dc_Instruction_placeBehind : ∀ e ∈ tb_Instruction_placeBehind, decode (mj_cc me_Instruction_placeBehind) e.1 = .ok (e.2.1, e.2.2.1) ∧ mj_xb lc_Instruction e = true := by decide +kernel
theorem ok_Instruction_placeBehind : mj_ok me_Instruction_placeBehind := ⟨dc_Instruction_placeBehind, fk_Instruction, lk_Instruction, ci_Instruction⟩
set_option maxRecDepth 100000 in
theorem ck_Instruction_placeBehind : mj_ck me_Instruction_placeBehind 2 := ⟨mj_inG 266 (by rfl) (by rfl), mj_inG 8 (by rfl) (by rfl), by decide +kernel, by decide +kernel, rfl⟩
set_option maxRecDepth 100000 in
theorem iv_Instruction_placeBehind : mj_iv me_Instruction_placeBehind := ⟨mj_inG 264 (by rfl) (by rfl), mj_inG 265 (by rfl) (by rfl)⟩
theorem dc_Machine_doStep : ∀ e ∈ tb_Machine_doStep, decode (mj_cc me_Machine_doStep) e.1 = .ok (e.2.1, e.2.2.1) ∧ mj_xb lc_Machine e = true := by decide +kernel
theorem ok_Machine_doStep : mj_ok me_Machine_doStep := ⟨dc_Machine_doStep, fk_Machine, lk_Machine, ci_Machine⟩
set_option maxRecDepth 100000 in
theorem ck_Machine_doStep : mj_ck me_Machine_doStep 1 := ⟨mj_inG 250 (by rfl) (by rfl), mj_inG 3 (by rfl) (by rfl), by decide +kernel, by decide +kernel, rfl⟩
set_option maxRecDepth 100000 in
theorem iv_Machine_doStep : mj_iv me_Machine_doStep := ⟨mj_inG 249 (by rfl) (by rfl), mj_inP 3 (by rfl) (by rfl)⟩
theorem dc_Machine_run : ∀ e ∈ tb_Machine_run, decode (mj_cc me_Machine_run) e.1 = .ok (e.2.1, e.2.2.1) ∧ mj_xb lc_Machine e = true := by decide +kernel
theorem ok_Machine_run : mj_ok me_Machine_run := ⟨dc_Machine_run, fk_Machine, lk_Machine, ci_Machine⟩
set_option maxRecDepth 100000 in
theorem ck_Machine_run : mj_ck me_Machine_run 2 := ⟨mj_inG 238 (by rfl) (by rfl), mj_inG 3 (by rfl) (by rfl), by decide +kernel, by decide +kernel, rfl⟩
set_option maxRecDepth 100000 in
theorem iv_Machine_run : mj_iv me_Machine_run := ⟨mj_inG 236 (by rfl) (by rfl), mj_inG 237 (by rfl) (by rfl)⟩
theorem dc_Top_reach : ∀ e ∈ tb_Top_reach, decode (mj_cc me_Top_reach) e.1 = .ok (e.2.1, e.2.2.1) ∧ mj_xb lc_Top e = true := by decide +kernel
theorem ok_Top_reach : mj_ok me_Top_reach := ⟨dc_Top_reach, fk_Top, lk_Top, ci_Top⟩
set_option maxRecDepth 100000 in
theorem ck_Top_reach : mj_ck me_Top_reach 2 := ⟨mj_inG 230 (by rfl) (by rfl), mj_inG 1 (by rfl) (by rfl), by decide +kernel, by decide +kernel, rfl⟩
set_option maxRecDepth 100000 in
theorem iv_Top_reach : mj_iv me_Top_reach := ⟨mj_inG 229 (by rfl) (by rfl), mj_inP 0 (by rfl) (by rfl)⟩
theorem dc_Top_mix : ∀ e ∈ tb_Top_mix, decode (mj_cc me_Top_mix) e.1 = .ok (e.2.1, e.2.2.1) ∧ mj_xb lc_Top e = true := by decide +kernel
theorem ok_Top_mix : mj_ok me_Top_mix := ⟨dc_Top_mix, fk_Top, lk_Top, ci_Top⟩
set_option maxRecDepth 100000 in
theorem ck_Top_mix : mj_ck me_Top_mix 2 := ⟨mj_inG 277 (by rfl) (by rfl), mj_inG 1 (by rfl) (by rfl), by decide +kernel, by decide +kernel, rfl⟩
set_option maxRecDepth 100000 in
theorem iv_Top_mix : Cond.static (mj_y me_Top_mix) ∈ mj_G := mj_inG 276 (by rfl) (by rfl)
theorem dc_Machine_growTree : ∀ e ∈ tb_Machine_growTree, decode (mj_cc me_Machine_growTree) e.1 = .ok (e.2.1, e.2.2.1) ∧ mj_xb lc_Machine e = true := by decide +kernel
theorem ok_Machine_growTree : mj_ok me_Machine_growTree := ⟨dc_Machine_growTree, fk_Machine, lk_Machine, ci_Machine⟩
set_option maxRecDepth 100000 in
theorem ck_Machine_growTree : mj_ck me_Machine_growTree 0 := ⟨mj_inG 274 (by rfl) (by rfl), mj_inG 3 (by rfl) (by rfl), by decide +kernel, by decide +kernel, rfl⟩
set_option maxRecDepth 100000 in
theorem iv_Machine_growTree : mj_iv me_Machine_growTree := ⟨mj_inG 272 (by rfl) (by rfl), mj_inG 273 (by rfl) (by rfl)⟩
theorem dc_Machine_digestOfTree : ∀ e ∈ tb_Machine_digestOfTree, decode (mj_cc me_Machine_digestOfTree) e.1 = .ok (e.2.1, e.2.2.1) ∧ mj_xb lc_Machine e = true := by decide +kernel
theorem ok_Machine_digestOfTree : mj_ok me_Machine_digestOfTree := ⟨dc_Machine_digestOfTree, fk_Machine, lk_Machine, ci_Machine⟩
set_option maxRecDepth 100000 in
theorem ck_Machine_digestOfTree : mj_ck me_Machine_digestOfTree 0 := ⟨mj_inG 270 (by rfl) (by rfl), mj_inG 3 (by rfl) (by rfl), by decide +kernel, by decide +kernel, rfl⟩
set_option maxRecDepth 100000 in
theorem iv_Machine_digestOfTree : mj_iv me_Machine_digestOfTree := ⟨mj_inG 268 (by rfl) (by rfl), mj_inG 269 (by rfl) (by rfl)⟩
theorem dc_Top_truth : ∀ e ∈ tb_Top_truth, decode (mj_cc me_Top_truth) e.1 = .ok (e.2.1, e.2.2.1) ∧ mj_xb lc_Top e = true := by decide +kernel
theorem ok_Top_truth : mj_ok me_Top_truth := ⟨dc_Top_truth, fk_Top, lk_Top, ci_Top⟩
set_option maxRecDepth 100000 in
theorem ck_Top_truth : mj_ck me_Top_truth 2 := ⟨mj_inG 226 (by rfl) (by rfl), mj_inG 1 (by rfl) (by rfl), by decide +kernel, by decide +kernel, rfl⟩
set_option maxRecDepth 100000 in
theorem iv_Top_truth : mj_iv me_Top_truth := ⟨mj_inG 224 (by rfl) (by rfl), mj_inG 225 (by rfl) (by rfl)⟩
theorem dc_Top_state : ∀ e ∈ tb_Top_state, decode (mj_cc me_Top_state) e.1 = .ok (e.2.1, e.2.2.1) ∧ mj_xb lc_Top e = true := by decide +kernel
theorem ok_Top_state : mj_ok me_Top_state := ⟨dc_Top_state, fk_Top, lk_Top, ci_Top⟩
set_option maxRecDepth 100000 in
theorem ck_Top_state : mj_ck me_Top_state 3 := ⟨mj_inG 283 (by rfl) (by rfl), mj_inG 1 (by rfl) (by rfl), by decide +kernel, by decide +kernel, rfl⟩
set_option maxRecDepth 100000 in
theorem iv_Top_state : mj_iv me_Top_state := ⟨mj_inG 281 (by rfl) (by rfl), mj_inG 282 (by rfl) (by rfl)⟩
theorem dc_Top_node : ∀ e ∈ tb_Top_node, decode (mj_cc me_Top_node) e.1 = .ok (e.2.1, e.2.2.1) ∧ mj_xb lc_Top e = true := by decide +kernel
theorem ok_Top_node : mj_ok me_Top_node := ⟨dc_Top_node, fk_Top, lk_Top, ci_Top⟩
set_option maxRecDepth 100000 in
theorem ck_Top_node : mj_ck me_Top_node 3 := ⟨mj_inG 287 (by rfl) (by rfl), mj_inG 1 (by rfl) (by rfl), by decide +kernel, by decide +kernel, rfl⟩
set_option maxRecDepth 100000 in
theorem iv_Top_node : mj_iv me_Top_node := ⟨mj_inG 285 (by rfl) (by rfl), mj_inG 286 (by rfl) (by rfl)⟩
theorem dc_Top_isPlayer : ∀ e ∈ tb_Top_isPlayer, decode (mj_cc me_Top_isPlayer) e.1 = .ok (e.2.1, e.2.2.1) ∧ mj_xb lc_Top e = true := by decide +kernel
theorem ok_Top_isPlayer : mj_ok me_Top_isPlayer := ⟨dc_Top_isPlayer, fk_Top, lk_Top, ci_Top⟩
set_option maxRecDepth 100000 in
theorem ck_Top_isPlayer : mj_ck me_Top_isPlayer 1 := ⟨mj_inG 299 (by rfl) (by rfl), mj_inG 1 (by rfl) (by rfl), by decide +kernel, by decide +kernel, rfl⟩
set_option maxRecDepth 100000 in
theorem iv_Top_isPlayer : Cond.static (mj_y me_Top_isPlayer) ∈ mj_G := mj_inG 298 (by rfl) (by rfl)
theorem dc_Court_pay : ∀ e ∈ tb_Court_pay, decode (mj_cc me_Court_pay) e.1 = .ok (e.2.1, e.2.2.1) ∧ mj_xb lc_Court e = true := by decide +kernel
theorem ok_Court_pay : mj_ok me_Court_pay := ⟨dc_Court_pay, fk_Court, lk_Court, ci_Court⟩
set_option maxRecDepth 100000 in
theorem ck_Court_pay : mj_ck me_Court_pay 2 := ⟨mj_inG 303 (by rfl) (by rfl), mj_inG 6 (by rfl) (by rfl), by decide +kernel, by decide +kernel, rfl⟩
set_option maxRecDepth 100000 in
theorem iv_Court_pay : mj_iv me_Court_pay := ⟨mj_inG 302 (by rfl) (by rfl), mj_inP 4 (by rfl) (by rfl)⟩
theorem dc_Claim_init : ∀ e ∈ tb_Claim_init, decode (mj_cc me_Claim_init) e.1 = .ok (e.2.1, e.2.2.1) ∧ mj_xb lc_Claim e = true := by decide +kernel
theorem ok_Claim_init : mj_ok me_Claim_init := ⟨dc_Claim_init, fk_Claim, lk_Claim, ci_Claim⟩
set_option maxRecDepth 100000 in
theorem ck_Claim_init : mj_ck me_Claim_init 5 := ⟨mj_inG 307 (by rfl) (by rfl), mj_inG 10 (by rfl) (by rfl), by decide +kernel, by decide +kernel, rfl⟩
set_option maxRecDepth 100000 in
theorem iv_Claim_init : Cond.instanceMethod (mj_y me_Claim_init) ∈ mj_G := mj_inG 306 (by rfl) (by rfl)
theorem dc_Court_openClaim : ∀ e ∈ tb_Court_openClaim, decode (mj_cc me_Court_openClaim) e.1 = .ok (e.2.1, e.2.2.1) ∧ mj_xb lc_Court e = true := by decide +kernel
theorem ok_Court_openClaim : mj_ok me_Court_openClaim := ⟨dc_Court_openClaim, fk_Court, lk_Court, ci_Court⟩
set_option maxRecDepth 100000 in
theorem ck_Court_openClaim : mj_ck me_Court_openClaim 3 := ⟨mj_inG 296 (by rfl) (by rfl), mj_inG 6 (by rfl) (by rfl), by decide +kernel, by decide +kernel, rfl⟩
set_option maxRecDepth 100000 in
theorem iv_Court_openClaim : mj_iv me_Court_openClaim := ⟨mj_inG 294 (by rfl) (by rfl), mj_inG 295 (by rfl) (by rfl)⟩
theorem dc_Top_claim : ∀ e ∈ tb_Top_claim, decode (mj_cc me_Top_claim) e.1 = .ok (e.2.1, e.2.2.1) ∧ mj_xb lc_Top e = true := by decide +kernel
theorem ok_Top_claim : mj_ok me_Top_claim := ⟨dc_Top_claim, fk_Top, lk_Top, ci_Top⟩
set_option maxRecDepth 100000 in
theorem ck_Top_claim : mj_ck me_Top_claim 3 := ⟨mj_inG 292 (by rfl) (by rfl), mj_inG 1 (by rfl) (by rfl), by decide +kernel, by decide +kernel, rfl⟩
set_option maxRecDepth 100000 in
theorem iv_Top_claim : mj_iv me_Top_claim := ⟨mj_inG 290 (by rfl) (by rfl), mj_inG 291 (by rfl) (by rfl)⟩
theorem dc_Court_claimAt : ∀ e ∈ tb_Court_claimAt, decode (mj_cc me_Court_claimAt) e.1 = .ok (e.2.1, e.2.2.1) ∧ mj_xb lc_Court e = true := by decide +kernel
theorem ok_Court_claimAt : mj_ok me_Court_claimAt := ⟨dc_Court_claimAt, fk_Court, lk_Court, ci_Court⟩
set_option maxRecDepth 100000 in
theorem ck_Court_claimAt : mj_ck me_Court_claimAt 1 := ⟨mj_inG 349 (by rfl) (by rfl), mj_inG 6 (by rfl) (by rfl), by decide +kernel, by decide +kernel, rfl⟩
set_option maxRecDepth 100000 in
theorem iv_Court_claimAt : mj_iv me_Court_claimAt := ⟨mj_inG 347 (by rfl) (by rfl), mj_inG 348 (by rfl) (by rfl)⟩
theorem dc_Court_mayDispute : ∀ e ∈ tb_Court_mayDispute, decode (mj_cc me_Court_mayDispute) e.1 = .ok (e.2.1, e.2.2.1) ∧ mj_xb lc_Court e = true := by decide +kernel
theorem ok_Court_mayDispute : mj_ok me_Court_mayDispute := ⟨dc_Court_mayDispute, fk_Court, lk_Court, ci_Court⟩
set_option maxRecDepth 100000 in
theorem ck_Court_mayDispute : mj_ck me_Court_mayDispute 2 := ⟨mj_inG 357 (by rfl) (by rfl), mj_inG 6 (by rfl) (by rfl), by decide +kernel, by decide +kernel, rfl⟩
set_option maxRecDepth 100000 in
theorem iv_Court_mayDispute : mj_iv me_Court_mayDispute := ⟨mj_inG 356 (by rfl) (by rfl), mj_inP 5 (by rfl) (by rfl)⟩
theorem dc_Dispute_init : ∀ e ∈ tb_Dispute_init, decode (mj_cc me_Dispute_init) e.1 = .ok (e.2.1, e.2.2.1) ∧ mj_xb lc_Dispute e = true := by decide +kernel
theorem ok_Dispute_init : mj_ok me_Dispute_init := ⟨dc_Dispute_init, fk_Dispute, lk_Dispute, ci_Dispute⟩
set_option maxRecDepth 100000 in
theorem ck_Dispute_init : mj_ck me_Dispute_init 4 := ⟨mj_inG 361 (by rfl) (by rfl), mj_inG 11 (by rfl) (by rfl), by decide +kernel, by decide +kernel, rfl⟩
set_option maxRecDepth 100000 in
theorem iv_Dispute_init : Cond.instanceMethod (mj_y me_Dispute_init) ∈ mj_G := mj_inG 360 (by rfl) (by rfl)
theorem dc_Court_openDispute : ∀ e ∈ tb_Court_openDispute, decode (mj_cc me_Court_openDispute) e.1 = .ok (e.2.1, e.2.2.1) ∧ mj_xb lc_Court e = true := by decide +kernel
theorem ok_Court_openDispute : mj_ok me_Court_openDispute := ⟨dc_Court_openDispute, fk_Court, lk_Court, ci_Court⟩
set_option maxRecDepth 100000 in
theorem ck_Court_openDispute : mj_ck me_Court_openDispute 4 := ⟨mj_inG 353 (by rfl) (by rfl), mj_inG 6 (by rfl) (by rfl), by decide +kernel, by decide +kernel, rfl⟩
set_option maxRecDepth 100000 in
theorem iv_Court_openDispute : mj_iv me_Court_openDispute := ⟨mj_inG 351 (by rfl) (by rfl), mj_inG 352 (by rfl) (by rfl)⟩
theorem dc_Top_dispute : ∀ e ∈ tb_Top_dispute, decode (mj_cc me_Top_dispute) e.1 = .ok (e.2.1, e.2.2.1) ∧ mj_xb lc_Top e = true := by decide +kernel
theorem ok_Top_dispute : mj_ok me_Top_dispute := ⟨dc_Top_dispute, fk_Top, lk_Top, ci_Top⟩
set_option maxRecDepth 100000 in
theorem ck_Top_dispute : mj_ck me_Top_dispute 2 := ⟨mj_inG 345 (by rfl) (by rfl), mj_inG 1 (by rfl) (by rfl), by decide +kernel, by decide +kernel, rfl⟩
set_option maxRecDepth 100000 in
theorem iv_Top_dispute : mj_iv me_Top_dispute := ⟨mj_inG 343 (by rfl) (by rfl), mj_inG 344 (by rfl) (by rfl)⟩
theorem dc_Court_disputeAt : ∀ e ∈ tb_Court_disputeAt, decode (mj_cc me_Court_disputeAt) e.1 = .ok (e.2.1, e.2.2.1) ∧ mj_xb lc_Court e = true := by decide +kernel
theorem ok_Court_disputeAt : mj_ok me_Court_disputeAt := ⟨dc_Court_disputeAt, fk_Court, lk_Court, ci_Court⟩
set_option maxRecDepth 100000 in
theorem ck_Court_disputeAt : mj_ck me_Court_disputeAt 1 := ⟨mj_inG 424 (by rfl) (by rfl), mj_inG 6 (by rfl) (by rfl), by decide +kernel, by decide +kernel, rfl⟩
set_option maxRecDepth 100000 in
theorem iv_Court_disputeAt : mj_iv me_Court_disputeAt := ⟨mj_inG 422 (by rfl) (by rfl), mj_inG 423 (by rfl) (by rfl)⟩
theorem dc_Dispute_turn : ∀ e ∈ tb_Dispute_turn, decode (mj_cc me_Dispute_turn) e.1 = .ok (e.2.1, e.2.2.1) ∧ mj_xb lc_Dispute e = true := by decide +kernel
theorem ok_Dispute_turn : mj_ok me_Dispute_turn := ⟨dc_Dispute_turn, fk_Dispute, lk_Dispute, ci_Dispute⟩
set_option maxRecDepth 100000 in
theorem ck_Dispute_turn : mj_ck me_Dispute_turn 0 := ⟨mj_inG 428 (by rfl) (by rfl), mj_inG 11 (by rfl) (by rfl), by decide +kernel, by decide +kernel, rfl⟩
set_option maxRecDepth 100000 in
theorem iv_Dispute_turn : mj_iv me_Dispute_turn := ⟨mj_inG 426 (by rfl) (by rfl), mj_inG 427 (by rfl) (by rfl)⟩
theorem dc_Dispute_takeMiddle : ∀ e ∈ tb_Dispute_takeMiddle, decode (mj_cc me_Dispute_takeMiddle) e.1 = .ok (e.2.1, e.2.2.1) ∧ mj_xb lc_Dispute e = true := by decide +kernel
theorem ok_Dispute_takeMiddle : mj_ok me_Dispute_takeMiddle := ⟨dc_Dispute_takeMiddle, fk_Dispute, lk_Dispute, ci_Dispute⟩
set_option maxRecDepth 100000 in
theorem ck_Dispute_takeMiddle : mj_ck me_Dispute_takeMiddle 1 := ⟨mj_inG 432 (by rfl) (by rfl), mj_inG 11 (by rfl) (by rfl), by decide +kernel, by decide +kernel, rfl⟩
set_option maxRecDepth 100000 in
theorem iv_Dispute_takeMiddle : mj_iv me_Dispute_takeMiddle := ⟨mj_inG 430 (by rfl) (by rfl), mj_inG 431 (by rfl) (by rfl)⟩
theorem dc_Dispute_middle : ∀ e ∈ tb_Dispute_middle, decode (mj_cc me_Dispute_middle) e.1 = .ok (e.2.1, e.2.2.1) ∧ mj_xb lc_Dispute e = true := by decide +kernel
theorem ok_Dispute_middle : mj_ok me_Dispute_middle := ⟨dc_Dispute_middle, fk_Dispute, lk_Dispute, ci_Dispute⟩
set_option maxRecDepth 100000 in
theorem ck_Dispute_middle : mj_ck me_Dispute_middle 0 := ⟨mj_inG 436 (by rfl) (by rfl), mj_inG 11 (by rfl) (by rfl), by decide +kernel, by decide +kernel, rfl⟩
set_option maxRecDepth 100000 in
theorem iv_Dispute_middle : mj_iv me_Dispute_middle := ⟨mj_inG 434 (by rfl) (by rfl), mj_inG 435 (by rfl) (by rfl)⟩
theorem dc_Top_tell : ∀ e ∈ tb_Top_tell, decode (mj_cc me_Top_tell) e.1 = .ok (e.2.1, e.2.2.1) ∧ mj_xb lc_Top e = true := by decide +kernel
theorem ok_Top_tell : mj_ok me_Top_tell := ⟨dc_Top_tell, fk_Top, lk_Top, ci_Top⟩
set_option maxRecDepth 100000 in
theorem ck_Top_tell : mj_ck me_Top_tell 2 := ⟨mj_inG 420 (by rfl) (by rfl), mj_inG 1 (by rfl) (by rfl), by decide +kernel, by decide +kernel, rfl⟩
set_option maxRecDepth 100000 in
theorem iv_Top_tell : mj_iv me_Top_tell := ⟨mj_inG 418 (by rfl) (by rfl), mj_inG 419 (by rfl) (by rfl)⟩
theorem dc_Dispute_halve : ∀ e ∈ tb_Dispute_halve, decode (mj_cc me_Dispute_halve) e.1 = .ok (e.2.1, e.2.2.1) ∧ mj_xb lc_Dispute e = true := by decide +kernel
theorem ok_Dispute_halve : mj_ok me_Dispute_halve := ⟨dc_Dispute_halve, fk_Dispute, lk_Dispute, ci_Dispute⟩
set_option maxRecDepth 100000 in
theorem ck_Dispute_halve : mj_ck me_Dispute_halve 1 := ⟨mj_inG 444 (by rfl) (by rfl), mj_inG 11 (by rfl) (by rfl), by decide +kernel, by decide +kernel, rfl⟩
set_option maxRecDepth 100000 in
theorem iv_Dispute_halve : mj_iv me_Dispute_halve := ⟨mj_inG 442 (by rfl) (by rfl), mj_inG 443 (by rfl) (by rfl)⟩
theorem dc_Top_choose : ∀ e ∈ tb_Top_choose, decode (mj_cc me_Top_choose) e.1 = .ok (e.2.1, e.2.2.1) ∧ mj_xb lc_Top e = true := by decide +kernel
theorem ok_Top_choose : mj_ok me_Top_choose := ⟨dc_Top_choose, fk_Top, lk_Top, ci_Top⟩
set_option maxRecDepth 100000 in
theorem ck_Top_choose : mj_ck me_Top_choose 2 := ⟨mj_inG 440 (by rfl) (by rfl), mj_inG 1 (by rfl) (by rfl), by decide +kernel, by decide +kernel, rfl⟩
set_option maxRecDepth 100000 in
theorem iv_Top_choose : mj_iv me_Top_choose := ⟨mj_inG 438 (by rfl) (by rfl), mj_inG 439 (by rfl) (by rfl)⟩
theorem dc_Paper_begin : ∀ e ∈ tb_Paper_begin, decode (mj_cc me_Paper_begin) e.1 = .ok (e.2.1, e.2.2.1) ∧ mj_xb lc_Paper e = true := by decide +kernel
theorem ok_Paper_begin : mj_ok me_Paper_begin := ⟨dc_Paper_begin, fk_Paper, lk_Paper, ci_Paper⟩
set_option maxRecDepth 100000 in
theorem ck_Paper_begin : mj_ck me_Paper_begin 2 := ⟨mj_inG 453 (by rfl) (by rfl), mj_inG 4 (by rfl) (by rfl), by decide +kernel, by decide +kernel, rfl⟩
set_option maxRecDepth 100000 in
theorem iv_Paper_begin : mj_iv me_Paper_begin := ⟨mj_inG 451 (by rfl) (by rfl), mj_inG 452 (by rfl) (by rfl)⟩
theorem dc_Top_paper : ∀ e ∈ tb_Top_paper, decode (mj_cc me_Top_paper) e.1 = .ok (e.2.1, e.2.2.1) ∧ mj_xb lc_Top e = true := by decide +kernel
theorem ok_Top_paper : mj_ok me_Top_paper := ⟨dc_Top_paper, fk_Top, lk_Top, ci_Top⟩
set_option maxRecDepth 100000 in
theorem ck_Top_paper : mj_ck me_Top_paper 2 := ⟨mj_inG 449 (by rfl) (by rfl), mj_inG 1 (by rfl) (by rfl), by decide +kernel, by decide +kernel, rfl⟩
set_option maxRecDepth 100000 in
theorem iv_Top_paper : mj_iv me_Top_paper := ⟨mj_inG 447 (by rfl) (by rfl), mj_inG 448 (by rfl) (by rfl)⟩
theorem dc_Paper_find : ∀ e ∈ tb_Paper_find, decode (mj_cc me_Paper_find) e.1 = .ok (e.2.1, e.2.2.1) ∧ mj_xb lc_Paper e = true := by decide +kernel
theorem ok_Paper_find : mj_ok me_Paper_find := ⟨dc_Paper_find, fk_Paper, lk_Paper, ci_Paper⟩
set_option maxRecDepth 100000 in
theorem ck_Paper_find : mj_ck me_Paper_find 1 := ⟨mj_inG 461 (by rfl) (by rfl), mj_inG 4 (by rfl) (by rfl), by decide +kernel, by decide +kernel, rfl⟩
set_option maxRecDepth 100000 in
theorem iv_Paper_find : mj_iv me_Paper_find := ⟨mj_inG 459 (by rfl) (by rfl), mj_inG 460 (by rfl) (by rfl)⟩
theorem dc_Paper_append : ∀ e ∈ tb_Paper_append, decode (mj_cc me_Paper_append) e.1 = .ok (e.2.1, e.2.2.1) ∧ mj_xb lc_Paper e = true := by decide +kernel
theorem ok_Paper_append : mj_ok me_Paper_append := ⟨dc_Paper_append, fk_Paper, lk_Paper, ci_Paper⟩
set_option maxRecDepth 100000 in
theorem ck_Paper_append : mj_ck me_Paper_append 2 := ⟨mj_inG 465 (by rfl) (by rfl), mj_inG 4 (by rfl) (by rfl), by decide +kernel, by decide +kernel, rfl⟩
set_option maxRecDepth 100000 in
theorem iv_Paper_append : mj_iv me_Paper_append := ⟨mj_inG 463 (by rfl) (by rfl), mj_inG 464 (by rfl) (by rfl)⟩
theorem dc_OnPaper_setBeside : ∀ e ∈ tb_OnPaper_setBeside, decode (mj_cc me_OnPaper_setBeside) e.1 = .ok (e.2.1, e.2.2.1) ∧ mj_xb lc_OnPaper e = true := by decide +kernel
theorem ok_OnPaper_setBeside : mj_ok me_OnPaper_setBeside := ⟨dc_OnPaper_setBeside, fk_OnPaper, lk_OnPaper, ci_OnPaper⟩
set_option maxRecDepth 100000 in
theorem ck_OnPaper_setBeside : mj_ck me_OnPaper_setBeside 4 := ⟨mj_inG 469 (by rfl) (by rfl), mj_inG 5 (by rfl) (by rfl), by decide +kernel, by decide +kernel, rfl⟩
set_option maxRecDepth 100000 in
theorem iv_OnPaper_setBeside : mj_iv me_OnPaper_setBeside := ⟨mj_inG 467 (by rfl) (by rfl), mj_inG 468 (by rfl) (by rfl)⟩
theorem dc_Top_cell : ∀ e ∈ tb_Top_cell, decode (mj_cc me_Top_cell) e.1 = .ok (e.2.1, e.2.2.1) ∧ mj_xb lc_Top e = true := by decide +kernel
theorem ok_Top_cell : mj_ok me_Top_cell := ⟨dc_Top_cell, fk_Top, lk_Top, ci_Top⟩
set_option maxRecDepth 100000 in
theorem ck_Top_cell : mj_ck me_Top_cell 6 := ⟨mj_inG 457 (by rfl) (by rfl), mj_inG 1 (by rfl) (by rfl), by decide +kernel, by decide +kernel, rfl⟩
set_option maxRecDepth 100000 in
theorem iv_Top_cell : mj_iv me_Top_cell := ⟨mj_inG 455 (by rfl) (by rfl), mj_inG 456 (by rfl) (by rfl)⟩
theorem dc_OnPaper_rootWith : ∀ e ∈ tb_OnPaper_rootWith, decode (mj_cc me_OnPaper_rootWith) e.1 = .ok (e.2.1, e.2.2.1) ∧ mj_xb lc_OnPaper e = true := by decide +kernel
theorem ok_OnPaper_rootWith : mj_ok me_OnPaper_rootWith := ⟨dc_OnPaper_rootWith, fk_OnPaper, lk_OnPaper, ci_OnPaper⟩
set_option maxRecDepth 100000 in
theorem ck_OnPaper_rootWith : mj_ck me_OnPaper_rootWith 1 := ⟨mj_inG 486 (by rfl) (by rfl), mj_inG 5 (by rfl) (by rfl), by decide +kernel, by decide +kernel, rfl⟩
set_option maxRecDepth 100000 in
theorem iv_OnPaper_rootWith : mj_iv me_OnPaper_rootWith := ⟨mj_inG 484 (by rfl) (by rfl), mj_inG 485 (by rfl) (by rfl)⟩
theorem dc_Paper_allWaysEndAtRoot : ∀ e ∈ tb_Paper_allWaysEndAtRoot, decode (mj_cc me_Paper_allWaysEndAtRoot) e.1 = .ok (e.2.1, e.2.2.1) ∧ mj_xb lc_Paper e = true := by decide +kernel
theorem ok_Paper_allWaysEndAtRoot : mj_ok me_Paper_allWaysEndAtRoot := ⟨dc_Paper_allWaysEndAtRoot, fk_Paper, lk_Paper, ci_Paper⟩
set_option maxRecDepth 100000 in
theorem ck_Paper_allWaysEndAtRoot : mj_ck me_Paper_allWaysEndAtRoot 0 := ⟨mj_inG 482 (by rfl) (by rfl), mj_inG 4 (by rfl) (by rfl), by decide +kernel, by decide +kernel, rfl⟩
set_option maxRecDepth 100000 in
theorem iv_Paper_allWaysEndAtRoot : mj_iv me_Paper_allWaysEndAtRoot := ⟨mj_inG 481 (by rfl) (by rfl), mj_inP 6 (by rfl) (by rfl)⟩
theorem dc_Instruction_asksForB : ∀ e ∈ tb_Instruction_asksForB, decode (mj_cc me_Instruction_asksForB) e.1 = .ok (e.2.1, e.2.2.1) ∧ mj_xb lc_Instruction e = true := by decide +kernel
theorem ok_Instruction_asksForB : mj_ok me_Instruction_asksForB := ⟨dc_Instruction_asksForB, fk_Instruction, lk_Instruction, ci_Instruction⟩
set_option maxRecDepth 100000 in
theorem ck_Instruction_asksForB : mj_ck me_Instruction_asksForB 0 := ⟨mj_inG 493 (by rfl) (by rfl), mj_inG 8 (by rfl) (by rfl), by decide +kernel, by decide +kernel, rfl⟩
set_option maxRecDepth 100000 in
theorem iv_Instruction_asksForB : mj_iv me_Instruction_asksForB := ⟨mj_inG 491 (by rfl) (by rfl), mj_inG 492 (by rfl) (by rfl)⟩
theorem dc_Paper_rootBehind : ∀ e ∈ tb_Paper_rootBehind, decode (mj_cc me_Paper_rootBehind) e.1 = .ok (e.2.1, e.2.2.1) ∧ mj_xb lc_Paper e = true := by decide +kernel
theorem ok_Paper_rootBehind : mj_ok me_Paper_rootBehind := ⟨dc_Paper_rootBehind, fk_Paper, lk_Paper, ci_Paper⟩
set_option maxRecDepth 100000 in
theorem ck_Paper_rootBehind : mj_ck me_Paper_rootBehind 4 := ⟨mj_inG 498 (by rfl) (by rfl), mj_inG 4 (by rfl) (by rfl), by decide +kernel, by decide +kernel, rfl⟩
set_option maxRecDepth 100000 in
theorem iv_Paper_rootBehind : mj_iv me_Paper_rootBehind := ⟨mj_inG 497 (by rfl) (by rfl), mj_inP 7 (by rfl) (by rfl)⟩
theorem dc_Paper_verdict : ∀ e ∈ tb_Paper_verdict, decode (mj_cc me_Paper_verdict) e.1 = .ok (e.2.1, e.2.2.1) ∧ mj_xb lc_Paper e = true := by decide +kernel
theorem ok_Paper_verdict : mj_ok me_Paper_verdict := ⟨dc_Paper_verdict, fk_Paper, lk_Paper, ci_Paper⟩
set_option maxRecDepth 100000 in
theorem ck_Paper_verdict : mj_ck me_Paper_verdict 3 := ⟨mj_inG 477 (by rfl) (by rfl), mj_inG 4 (by rfl) (by rfl), by decide +kernel, by decide +kernel, rfl⟩
set_option maxRecDepth 100000 in
theorem iv_Paper_verdict : mj_iv me_Paper_verdict := ⟨mj_inG 475 (by rfl) (by rfl), mj_inG 476 (by rfl) (by rfl)⟩
theorem dc_Court_claimantWins : ∀ e ∈ tb_Court_claimantWins, decode (mj_cc me_Court_claimantWins) e.1 = .ok (e.2.1, e.2.2.1) ∧ mj_xb lc_Court e = true := by decide +kernel
theorem ok_Court_claimantWins : mj_ok me_Court_claimantWins := ⟨dc_Court_claimantWins, fk_Court, lk_Court, ci_Court⟩
set_option maxRecDepth 100000 in
theorem ck_Court_claimantWins : mj_ck me_Court_claimantWins 1 := ⟨mj_inG 505 (by rfl) (by rfl), mj_inG 6 (by rfl) (by rfl), by decide +kernel, by decide +kernel, rfl⟩
set_option maxRecDepth 100000 in
theorem iv_Court_claimantWins : mj_iv me_Court_claimantWins := ⟨mj_inG 503 (by rfl) (by rfl), mj_inG 504 (by rfl) (by rfl)⟩
theorem dc_Court_openDisputeAt : ∀ e ∈ tb_Court_openDisputeAt, decode (mj_cc me_Court_openDisputeAt) e.1 = .ok (e.2.1, e.2.2.1) ∧ mj_xb lc_Court e = true := by decide +kernel
theorem ok_Court_openDisputeAt : mj_ok me_Court_openDisputeAt := ⟨dc_Court_openDisputeAt, fk_Court, lk_Court, ci_Court⟩
set_option maxRecDepth 100000 in
theorem ck_Court_openDisputeAt : mj_ck me_Court_openDisputeAt 1 := ⟨mj_inG 517 (by rfl) (by rfl), mj_inG 6 (by rfl) (by rfl), by decide +kernel, by decide +kernel, rfl⟩
set_option maxRecDepth 100000 in
theorem iv_Court_openDisputeAt : mj_iv me_Court_openDisputeAt := ⟨mj_inG 516 (by rfl) (by rfl), mj_inP 9 (by rfl) (by rfl)⟩
theorem dc_Court_dropOpenDisputes : ∀ e ∈ tb_Court_dropOpenDisputes, decode (mj_cc me_Court_dropOpenDisputes) e.1 = .ok (e.2.1, e.2.2.1) ∧ mj_xb lc_Court e = true := by decide +kernel
theorem ok_Court_dropOpenDisputes : mj_ok me_Court_dropOpenDisputes := ⟨dc_Court_dropOpenDisputes, fk_Court, lk_Court, ci_Court⟩
set_option maxRecDepth 100000 in
theorem ck_Court_dropOpenDisputes : mj_ck me_Court_dropOpenDisputes 1 := ⟨mj_inG 513 (by rfl) (by rfl), mj_inG 6 (by rfl) (by rfl), by decide +kernel, by decide +kernel, rfl⟩
set_option maxRecDepth 100000 in
theorem iv_Court_dropOpenDisputes : mj_iv me_Court_dropOpenDisputes := ⟨mj_inG 512 (by rfl) (by rfl), mj_inP 8 (by rfl) (by rfl)⟩
theorem dc_Court_disputerWins : ∀ e ∈ tb_Court_disputerWins, decode (mj_cc me_Court_disputerWins) e.1 = .ok (e.2.1, e.2.2.1) ∧ mj_xb lc_Court e = true := by decide +kernel
theorem ok_Court_disputerWins : mj_ok me_Court_disputerWins := ⟨dc_Court_disputerWins, fk_Court, lk_Court, ci_Court⟩
set_option maxRecDepth 100000 in
theorem ck_Court_disputerWins : mj_ck me_Court_disputerWins 1 := ⟨mj_inG 509 (by rfl) (by rfl), mj_inG 6 (by rfl) (by rfl), by decide +kernel, by decide +kernel, rfl⟩
set_option maxRecDepth 100000 in
theorem iv_Court_disputerWins : mj_iv me_Court_disputerWins := ⟨mj_inG 507 (by rfl) (by rfl), mj_inG 508 (by rfl) (by rfl)⟩
theorem dc_Top_prove : ∀ e ∈ tb_Top_prove, decode (mj_cc me_Top_prove) e.1 = .ok (e.2.1, e.2.2.1) ∧ mj_xb lc_Top e = true := by decide +kernel
theorem ok_Top_prove : mj_ok me_Top_prove := ⟨dc_Top_prove, fk_Top, lk_Top, ci_Top⟩
set_option maxRecDepth 100000 in
theorem ck_Top_prove : mj_ck me_Top_prove 1 := ⟨mj_inG 473 (by rfl) (by rfl), mj_inG 1 (by rfl) (by rfl), by decide +kernel, by decide +kernel, rfl⟩
set_option maxRecDepth 100000 in
theorem iv_Top_prove : mj_iv me_Top_prove := ⟨mj_inG 471 (by rfl) (by rfl), mj_inG 472 (by rfl) (by rfl)⟩
theorem dc_Top_judge : ∀ e ∈ tb_Top_judge, decode (mj_cc me_Top_judge) e.1 = .ok (e.2.1, e.2.2.1) ∧ mj_xb lc_Top e = true := by decide +kernel
theorem ok_Top_judge : mj_ok me_Top_judge := ⟨dc_Top_judge, fk_Top, lk_Top, ci_Top⟩
set_option maxRecDepth 100000 in
theorem ck_Top_judge : mj_ck me_Top_judge 3 := ⟨mj_inG 522 (by rfl) (by rfl), mj_inG 1 (by rfl) (by rfl), by decide +kernel, by decide +kernel, rfl⟩
set_option maxRecDepth 100000 in
theorem iv_Top_judge : mj_iv me_Top_judge := ⟨mj_inG 520 (by rfl) (by rfl), mj_inG 521 (by rfl) (by rfl)⟩
theorem dc_Machine_askedCells : ∀ e ∈ tb_Machine_askedCells, decode (mj_cc me_Machine_askedCells) e.1 = .ok (e.2.1, e.2.2.1) ∧ mj_xb lc_Machine e = true := by decide +kernel
theorem ok_Machine_askedCells : mj_ok me_Machine_askedCells := ⟨dc_Machine_askedCells, fk_Machine, lk_Machine, ci_Machine⟩
set_option maxRecDepth 100000 in
theorem ck_Machine_askedCells : mj_ck me_Machine_askedCells 1 := ⟨mj_inG 530 (by rfl) (by rfl), mj_inG 3 (by rfl) (by rfl), by decide +kernel, by decide +kernel, rfl⟩
set_option maxRecDepth 100000 in
theorem iv_Machine_askedCells : mj_iv me_Machine_askedCells := ⟨mj_inG 528 (by rfl) (by rfl), mj_inG 529 (by rfl) (by rfl)⟩
theorem dc_Top_copyToPaper : ∀ e ∈ tb_Top_copyToPaper, decode (mj_cc me_Top_copyToPaper) e.1 = .ok (e.2.1, e.2.2.1) ∧ mj_xb lc_Top e = true := by decide +kernel
theorem ok_Top_copyToPaper : mj_ok me_Top_copyToPaper := ⟨dc_Top_copyToPaper, fk_Top, lk_Top, ci_Top⟩
set_option maxRecDepth 100000 in
theorem ck_Top_copyToPaper : mj_ck me_Top_copyToPaper 1 := ⟨mj_inG 535 (by rfl) (by rfl), mj_inG 1 (by rfl) (by rfl), by decide +kernel, by decide +kernel, rfl⟩
set_option maxRecDepth 100000 in
theorem iv_Top_copyToPaper : mj_iv me_Top_copyToPaper := ⟨mj_inG 534 (by rfl) (by rfl), mj_inP 10 (by rfl) (by rfl)⟩
theorem dc_Top_write : ∀ e ∈ tb_Top_write, decode (mj_cc me_Top_write) e.1 = .ok (e.2.1, e.2.2.1) ∧ mj_xb lc_Top e = true := by decide +kernel
theorem ok_Top_write : mj_ok me_Top_write := ⟨dc_Top_write, fk_Top, lk_Top, ci_Top⟩
set_option maxRecDepth 100000 in
theorem ck_Top_write : mj_ck me_Top_write 2 := ⟨mj_inG 526 (by rfl) (by rfl), mj_inG 1 (by rfl) (by rfl), by decide +kernel, by decide +kernel, rfl⟩
set_option maxRecDepth 100000 in
theorem iv_Top_write : mj_iv me_Top_write := ⟨mj_inG 524 (by rfl) (by rfl), mj_inG 525 (by rfl) (by rfl)⟩
theorem dc_Dispute_countForTurn : ∀ e ∈ tb_Dispute_countForTurn, decode (mj_cc me_Dispute_countForTurn) e.1 = .ok (e.2.1, e.2.2.1) ∧ mj_xb lc_Dispute e = true := by decide +kernel
theorem ok_Dispute_countForTurn : mj_ok me_Dispute_countForTurn := ⟨dc_Dispute_countForTurn, fk_Dispute, lk_Dispute, ci_Dispute⟩
set_option maxRecDepth 100000 in
theorem ck_Dispute_countForTurn : mj_ck me_Dispute_countForTurn 0 := ⟨mj_inG 551 (by rfl) (by rfl), mj_inG 11 (by rfl) (by rfl), by decide +kernel, by decide +kernel, rfl⟩
set_option maxRecDepth 100000 in
theorem iv_Dispute_countForTurn : mj_iv me_Dispute_countForTurn := ⟨mj_inG 549 (by rfl) (by rfl), mj_inG 550 (by rfl) (by rfl)⟩
theorem dc_Court_countForDisputes : ∀ e ∈ tb_Court_countForDisputes, decode (mj_cc me_Court_countForDisputes) e.1 = .ok (e.2.1, e.2.2.1) ∧ mj_xb lc_Court e = true := by decide +kernel
theorem ok_Court_countForDisputes : mj_ok me_Court_countForDisputes := ⟨dc_Court_countForDisputes, fk_Court, lk_Court, ci_Court⟩
set_option maxRecDepth 100000 in
theorem ck_Court_countForDisputes : mj_ck me_Court_countForDisputes 0 := ⟨mj_inG 547 (by rfl) (by rfl), mj_inG 6 (by rfl) (by rfl), by decide +kernel, by decide +kernel, rfl⟩
set_option maxRecDepth 100000 in
theorem iv_Court_countForDisputes : mj_iv me_Court_countForDisputes := ⟨mj_inG 546 (by rfl) (by rfl), mj_inP 11 (by rfl) (by rfl)⟩
theorem dc_Claim_ticksLeft : ∀ e ∈ tb_Claim_ticksLeft, decode (mj_cc me_Claim_ticksLeft) e.1 = .ok (e.2.1, e.2.2.1) ∧ mj_xb lc_Claim e = true := by decide +kernel
theorem ok_Claim_ticksLeft : mj_ok me_Claim_ticksLeft := ⟨dc_Claim_ticksLeft, fk_Claim, lk_Claim, ci_Claim⟩
set_option maxRecDepth 100000 in
theorem ck_Claim_ticksLeft : mj_ck me_Claim_ticksLeft 1 := ⟨mj_inG 563 (by rfl) (by rfl), mj_inG 10 (by rfl) (by rfl), by decide +kernel, by decide +kernel, rfl⟩
set_option maxRecDepth 100000 in
theorem iv_Claim_ticksLeft : mj_iv me_Claim_ticksLeft := ⟨mj_inG 561 (by rfl) (by rfl), mj_inG 562 (by rfl) (by rfl)⟩
theorem dc_Court_acceptQuietClaims : ∀ e ∈ tb_Court_acceptQuietClaims, decode (mj_cc me_Court_acceptQuietClaims) e.1 = .ok (e.2.1, e.2.2.1) ∧ mj_xb lc_Court e = true := by decide +kernel
theorem ok_Court_acceptQuietClaims : mj_ok me_Court_acceptQuietClaims := ⟨dc_Court_acceptQuietClaims, fk_Court, lk_Court, ci_Court⟩
set_option maxRecDepth 100000 in
theorem ck_Court_acceptQuietClaims : mj_ck me_Court_acceptQuietClaims 0 := ⟨mj_inG 558 (by rfl) (by rfl), mj_inG 6 (by rfl) (by rfl), by decide +kernel, by decide +kernel, rfl⟩
set_option maxRecDepth 100000 in
theorem iv_Court_acceptQuietClaims : mj_iv me_Court_acceptQuietClaims := ⟨mj_inG 557 (by rfl) (by rfl), mj_inP 12 (by rfl) (by rfl)⟩
theorem dc_Court_pass : ∀ e ∈ tb_Court_pass, decode (mj_cc me_Court_pass) e.1 = .ok (e.2.1, e.2.2.1) ∧ mj_xb lc_Court e = true := by decide +kernel
theorem ok_Court_pass : mj_ok me_Court_pass := ⟨dc_Court_pass, fk_Court, lk_Court, ci_Court⟩
set_option maxRecDepth 100000 in
theorem ck_Court_pass : mj_ck me_Court_pass 1 := ⟨mj_inG 543 (by rfl) (by rfl), mj_inG 6 (by rfl) (by rfl), by decide +kernel, by decide +kernel, rfl⟩
set_option maxRecDepth 100000 in
theorem iv_Court_pass : mj_iv me_Court_pass := ⟨mj_inG 541 (by rfl) (by rfl), mj_inG 542 (by rfl) (by rfl)⟩
theorem dc_Top_tick : ∀ e ∈ tb_Top_tick, decode (mj_cc me_Top_tick) e.1 = .ok (e.2.1, e.2.2.1) ∧ mj_xb lc_Top e = true := by decide +kernel
theorem ok_Top_tick : mj_ok me_Top_tick := ⟨dc_Top_tick, fk_Top, lk_Top, ci_Top⟩
set_option maxRecDepth 100000 in
theorem ck_Top_tick : mj_ck me_Top_tick 1 := ⟨mj_inG 539 (by rfl) (by rfl), mj_inG 1 (by rfl) (by rfl), by decide +kernel, by decide +kernel, rfl⟩
set_option maxRecDepth 100000 in
theorem iv_Top_tick : mj_iv me_Top_tick := ⟨mj_inG 537 (by rfl) (by rfl), mj_inG 538 (by rfl) (by rfl)⟩
theorem dc_Top_ofClaim : ∀ e ∈ tb_Top_ofClaim, decode (mj_cc me_Top_ofClaim) e.1 = .ok (e.2.1, e.2.2.1) ∧ mj_xb lc_Top e = true := by decide +kernel
theorem ok_Top_ofClaim : mj_ok me_Top_ofClaim := ⟨dc_Top_ofClaim, fk_Top, lk_Top, ci_Top⟩
set_option maxRecDepth 100000 in
theorem ck_Top_ofClaim : mj_ck me_Top_ofClaim 2 := ⟨mj_inG 567 (by rfl) (by rfl), mj_inG 1 (by rfl) (by rfl), by decide +kernel, by decide +kernel, rfl⟩
set_option maxRecDepth 100000 in
theorem iv_Top_ofClaim : mj_iv me_Top_ofClaim := ⟨mj_inG 565 (by rfl) (by rfl), mj_inG 566 (by rfl) (by rfl)⟩
theorem dc_Top_ofDispute : ∀ e ∈ tb_Top_ofDispute, decode (mj_cc me_Top_ofDispute) e.1 = .ok (e.2.1, e.2.2.1) ∧ mj_xb lc_Top e = true := by decide +kernel
theorem ok_Top_ofDispute : mj_ok me_Top_ofDispute := ⟨dc_Top_ofDispute, fk_Top, lk_Top, ci_Top⟩
set_option maxRecDepth 100000 in
theorem ck_Top_ofDispute : mj_ck me_Top_ofDispute 2 := ⟨mj_inG 572 (by rfl) (by rfl), mj_inG 1 (by rfl) (by rfl), by decide +kernel, by decide +kernel, rfl⟩
set_option maxRecDepth 100000 in
theorem iv_Top_ofDispute : mj_iv me_Top_ofDispute := ⟨mj_inG 570 (by rfl) (by rfl), mj_inG 571 (by rfl) (by rfl)⟩
theorem dc_Top_digest : ∀ e ∈ tb_Top_digest, decode (mj_cc me_Top_digest) e.1 = .ok (e.2.1, e.2.2.1) ∧ mj_xb lc_Top e = true := by decide +kernel
theorem ok_Top_digest : mj_ok me_Top_digest := ⟨dc_Top_digest, fk_Top, lk_Top, ci_Top⟩
set_option maxRecDepth 100000 in
theorem ck_Top_digest : mj_ck me_Top_digest 2 := ⟨mj_inG 576 (by rfl) (by rfl), mj_inG 1 (by rfl) (by rfl), by decide +kernel, by decide +kernel, rfl⟩
set_option maxRecDepth 100000 in
theorem iv_Top_digest : mj_iv me_Top_digest := ⟨mj_inG 574 (by rfl) (by rfl), mj_inG 575 (by rfl) (by rfl)⟩
theorem dc_Top_purse : ∀ e ∈ tb_Top_purse, decode (mj_cc me_Top_purse) e.1 = .ok (e.2.1, e.2.2.1) ∧ mj_xb lc_Top e = true := by decide +kernel
theorem ok_Top_purse : mj_ok me_Top_purse := ⟨dc_Top_purse, fk_Top, lk_Top, ci_Top⟩
set_option maxRecDepth 100000 in
theorem ck_Top_purse : mj_ck me_Top_purse 1 := ⟨mj_inG 580 (by rfl) (by rfl), mj_inG 1 (by rfl) (by rfl), by decide +kernel, by decide +kernel, rfl⟩
set_option maxRecDepth 100000 in
theorem iv_Top_purse : mj_iv me_Top_purse := ⟨mj_inG 578 (by rfl) (by rfl), mj_inG 579 (by rfl) (by rfl)⟩
theorem dc_Court_total : ∀ e ∈ tb_Court_total, decode (mj_cc me_Court_total) e.1 = .ok (e.2.1, e.2.2.1) ∧ mj_xb lc_Court e = true := by decide +kernel
theorem ok_Court_total : mj_ok me_Court_total := ⟨dc_Court_total, fk_Court, lk_Court, ci_Court⟩
set_option maxRecDepth 100000 in
theorem ck_Court_total : mj_ck me_Court_total 0 := ⟨mj_inG 589 (by rfl) (by rfl), mj_inG 6 (by rfl) (by rfl), by decide +kernel, by decide +kernel, rfl⟩
set_option maxRecDepth 100000 in
theorem iv_Court_total : mj_iv me_Court_total := ⟨mj_inG 587 (by rfl) (by rfl), mj_inG 588 (by rfl) (by rfl)⟩
theorem dc_Top_sum : ∀ e ∈ tb_Top_sum, decode (mj_cc me_Top_sum) e.1 = .ok (e.2.1, e.2.2.1) ∧ mj_xb lc_Top e = true := by decide +kernel
theorem ok_Top_sum : mj_ok me_Top_sum := ⟨dc_Top_sum, fk_Top, lk_Top, ci_Top⟩
set_option maxRecDepth 100000 in
theorem ck_Top_sum : mj_ck me_Top_sum 0 := ⟨mj_inG 585 (by rfl) (by rfl), mj_inG 1 (by rfl) (by rfl), by decide +kernel, by decide +kernel, rfl⟩
set_option maxRecDepth 100000 in
theorem iv_Top_sum : mj_iv me_Top_sum := ⟨mj_inG 583 (by rfl) (by rfl), mj_inG 584 (by rfl) (by rfl)⟩
theorem dc_Top_clear : ∀ e ∈ tb_Top_clear, decode (mj_cc me_Top_clear) e.1 = .ok (e.2.1, e.2.2.1) ∧ mj_xb lc_Top e = true := by decide +kernel
theorem ok_Top_clear : mj_ok me_Top_clear := ⟨dc_Top_clear, fk_Top, lk_Top, ci_Top⟩
set_option maxRecDepth 100000 in
theorem ck_Top_clear : mj_ck me_Top_clear 0 := ⟨mj_inG 593 (by rfl) (by rfl), mj_inG 1 (by rfl) (by rfl), by decide +kernel, by decide +kernel, rfl⟩
set_option maxRecDepth 100000 in
theorem iv_Top_clear : mj_iv me_Top_clear := ⟨mj_inG 591 (by rfl) (by rfl), mj_inG 592 (by rfl) (by rfl)⟩
theorem dc_Ref_init : ∀ e ∈ tb_Ref_init, decode (mj_cc me_Ref_init) e.1 = .ok (e.2.1, e.2.2.1) ∧ mj_xb lc_Ref e = true := by decide +kernel
theorem ok_Ref_init : mj_ok me_Ref_init := ⟨dc_Ref_init, fk_Ref, lk_Ref, ci_Ref⟩
set_option maxRecDepth 100000 in
theorem ck_Ref_init : mj_ck me_Ref_init 0 := ⟨mj_inG 599 (by rfl) (by rfl), mj_inG 7 (by rfl) (by rfl), by decide +kernel, by decide +kernel, rfl⟩
set_option maxRecDepth 100000 in
theorem iv_Ref_init : Cond.instanceMethod (mj_y me_Ref_init) ∈ mj_G := mj_inG 598 (by rfl) (by rfl)
theorem dc_Ref_mix : ∀ e ∈ tb_Ref_mix, decode (mj_cc me_Ref_mix) e.1 = .ok (e.2.1, e.2.2.1) ∧ mj_xb lc_Ref e = true := by decide +kernel
theorem ok_Ref_mix : mj_ok me_Ref_mix := ⟨dc_Ref_mix, fk_Ref, lk_Ref, ci_Ref⟩
set_option maxRecDepth 100000 in
theorem ck_Ref_mix : mj_ck me_Ref_mix 2 := ⟨mj_inG 774 (by rfl) (by rfl), mj_inG 7 (by rfl) (by rfl), by decide +kernel, by decide +kernel, rfl⟩
set_option maxRecDepth 100000 in
theorem iv_Ref_mix : Cond.static (mj_y me_Ref_mix) ∈ mj_G := mj_inG 773 (by rfl) (by rfl)
theorem dc_Ref_isBatch : ∀ e ∈ tb_Ref_isBatch, decode (mj_cc me_Ref_isBatch) e.1 = .ok (e.2.1, e.2.2.1) ∧ mj_xb lc_Ref e = true := by decide +kernel
theorem ok_Ref_isBatch : mj_ok me_Ref_isBatch := ⟨dc_Ref_isBatch, fk_Ref, lk_Ref, ci_Ref⟩
set_option maxRecDepth 100000 in
theorem ck_Ref_isBatch : mj_ck me_Ref_isBatch 1 := ⟨mj_inG 741 (by rfl) (by rfl), mj_inG 7 (by rfl) (by rfl), by decide +kernel, by decide +kernel, rfl⟩
set_option maxRecDepth 100000 in
theorem iv_Ref_isBatch : mj_iv me_Ref_isBatch := ⟨mj_inG 740 (by rfl) (by rfl), mj_inP 14 (by rfl) (by rfl)⟩
theorem dc_Ref_instruction : ∀ e ∈ tb_Ref_instruction, decode (mj_cc me_Ref_instruction) e.1 = .ok (e.2.1, e.2.2.1) ∧ mj_xb lc_Ref e = true := by decide +kernel
theorem ok_Ref_instruction : mj_ok me_Ref_instruction := ⟨dc_Ref_instruction, fk_Ref, lk_Ref, ci_Ref⟩
set_option maxRecDepth 100000 in
theorem ck_Ref_instruction : mj_ck me_Ref_instruction 4 := ⟨mj_inG 725 (by rfl) (by rfl), mj_inG 7 (by rfl) (by rfl), by decide +kernel, by decide +kernel, rfl⟩
set_option maxRecDepth 100000 in
theorem iv_Ref_instruction : mj_iv me_Ref_instruction := ⟨mj_inG 723 (by rfl) (by rfl), mj_inG 724 (by rfl) (by rfl)⟩
theorem dc_Ref_batch : ∀ e ∈ tb_Ref_batch, decode (mj_cc me_Ref_batch) e.1 = .ok (e.2.1, e.2.2.1) ∧ mj_xb lc_Ref e = true := by decide +kernel
theorem ok_Ref_batch : mj_ok me_Ref_batch := ⟨dc_Ref_batch, fk_Ref, lk_Ref, ci_Ref⟩
set_option maxRecDepth 100000 in
theorem ck_Ref_batch : mj_ck me_Ref_batch 5 := ⟨mj_inG 729 (by rfl) (by rfl), mj_inG 7 (by rfl) (by rfl), by decide +kernel, by decide +kernel, rfl⟩
set_option maxRecDepth 100000 in
theorem iv_Ref_batch : mj_iv me_Ref_batch := ⟨mj_inG 727 (by rfl) (by rfl), mj_inG 728 (by rfl) (by rfl)⟩
theorem dc_Ref_at : ∀ e ∈ tb_Ref_at, decode (mj_cc me_Ref_at) e.1 = .ok (e.2.1, e.2.2.1) ∧ mj_xb lc_Ref e = true := by decide +kernel
theorem ok_Ref_at : mj_ok me_Ref_at := ⟨dc_Ref_at, fk_Ref, lk_Ref, ci_Ref⟩
set_option maxRecDepth 100000 in
theorem ck_Ref_at : mj_ck me_Ref_at 2 := ⟨mj_inG 749 (by rfl) (by rfl), mj_inG 7 (by rfl) (by rfl), by decide +kernel, by decide +kernel, rfl⟩
set_option maxRecDepth 100000 in
theorem iv_Ref_at : mj_iv me_Ref_at := ⟨mj_inG 748 (by rfl) (by rfl), mj_inP 16 (by rfl) (by rfl)⟩
theorem dc_Ref_written : ∀ e ∈ tb_Ref_written, decode (mj_cc me_Ref_written) e.1 = .ok (e.2.1, e.2.2.1) ∧ mj_xb lc_Ref e = true := by decide +kernel
theorem ok_Ref_written : mj_ok me_Ref_written := ⟨dc_Ref_written, fk_Ref, lk_Ref, ci_Ref⟩
set_option maxRecDepth 100000 in
theorem ck_Ref_written : mj_ck me_Ref_written 1 := ⟨mj_inG 753 (by rfl) (by rfl), mj_inG 7 (by rfl) (by rfl), by decide +kernel, by decide +kernel, rfl⟩
set_option maxRecDepth 100000 in
theorem iv_Ref_written : mj_iv me_Ref_written := ⟨mj_inG 752 (by rfl) (by rfl), mj_inP 17 (by rfl) (by rfl)⟩
theorem dc_Ref_valueOf : ∀ e ∈ tb_Ref_valueOf, decode (mj_cc me_Ref_valueOf) e.1 = .ok (e.2.1, e.2.2.1) ∧ mj_xb lc_Ref e = true := by decide +kernel
theorem ok_Ref_valueOf : mj_ok me_Ref_valueOf := ⟨dc_Ref_valueOf, fk_Ref, lk_Ref, ci_Ref⟩
set_option maxRecDepth 100000 in
theorem ck_Ref_valueOf : mj_ck me_Ref_valueOf 1 := ⟨mj_inG 757 (by rfl) (by rfl), mj_inG 7 (by rfl) (by rfl), by decide +kernel, by decide +kernel, rfl⟩
set_option maxRecDepth 100000 in
theorem iv_Ref_valueOf : mj_iv me_Ref_valueOf := ⟨mj_inG 756 (by rfl) (by rfl), mj_inP 18 (by rfl) (by rfl)⟩
theorem dc_Ref_placeBehind : ∀ e ∈ tb_Ref_placeBehind, decode (mj_cc me_Ref_placeBehind) e.1 = .ok (e.2.1, e.2.2.1) ∧ mj_xb lc_Ref e = true := by decide +kernel
theorem ok_Ref_placeBehind : mj_ok me_Ref_placeBehind := ⟨dc_Ref_placeBehind, fk_Ref, lk_Ref, ci_Ref⟩
set_option maxRecDepth 100000 in
theorem ck_Ref_placeBehind : mj_ck me_Ref_placeBehind 2 := ⟨mj_inG 762 (by rfl) (by rfl), mj_inG 7 (by rfl) (by rfl), by decide +kernel, by decide +kernel, rfl⟩
set_option maxRecDepth 100000 in
theorem iv_Ref_placeBehind : mj_iv me_Ref_placeBehind := ⟨mj_inG 761 (by rfl) (by rfl), mj_inP 19 (by rfl) (by rfl)⟩
theorem dc_Ref_step : ∀ e ∈ tb_Ref_step, decode (mj_cc me_Ref_step) e.1 = .ok (e.2.1, e.2.2.1) ∧ mj_xb lc_Ref e = true := by decide +kernel
theorem ok_Ref_step : mj_ok me_Ref_step := ⟨dc_Ref_step, fk_Ref, lk_Ref, ci_Ref⟩
set_option maxRecDepth 100000 in
theorem ck_Ref_step : mj_ck me_Ref_step 1 := ⟨mj_inG 745 (by rfl) (by rfl), mj_inG 7 (by rfl) (by rfl), by decide +kernel, by decide +kernel, rfl⟩
set_option maxRecDepth 100000 in
theorem iv_Ref_step : mj_iv me_Ref_step := ⟨mj_inG 744 (by rfl) (by rfl), mj_inP 15 (by rfl) (by rfl)⟩
theorem dc_Ref_walk : ∀ e ∈ tb_Ref_walk, decode (mj_cc me_Ref_walk) e.1 = .ok (e.2.1, e.2.2.1) ∧ mj_xb lc_Ref e = true := by decide +kernel
theorem ok_Ref_walk : mj_ok me_Ref_walk := ⟨dc_Ref_walk, fk_Ref, lk_Ref, ci_Ref⟩
set_option maxRecDepth 100000 in
theorem ck_Ref_walk : mj_ck me_Ref_walk 2 := ⟨mj_inG 737 (by rfl) (by rfl), mj_inG 7 (by rfl) (by rfl), by decide +kernel, by decide +kernel, rfl⟩
set_option maxRecDepth 100000 in
theorem iv_Ref_walk : mj_iv me_Ref_walk := ⟨mj_inG 736 (by rfl) (by rfl), mj_inP 13 (by rfl) (by rfl)⟩
theorem dc_Ref_makeTree : ∀ e ∈ tb_Ref_makeTree, decode (mj_cc me_Ref_makeTree) e.1 = .ok (e.2.1, e.2.2.1) ∧ mj_xb lc_Ref e = true := by decide +kernel
theorem ok_Ref_makeTree : mj_ok me_Ref_makeTree := ⟨dc_Ref_makeTree, fk_Ref, lk_Ref, ci_Ref⟩
set_option maxRecDepth 100000 in
theorem ck_Ref_makeTree : mj_ck me_Ref_makeTree 0 := ⟨mj_inG 770 (by rfl) (by rfl), mj_inG 7 (by rfl) (by rfl), by decide +kernel, by decide +kernel, rfl⟩
set_option maxRecDepth 100000 in
theorem iv_Ref_makeTree : mj_iv me_Ref_makeTree := ⟨mj_inG 769 (by rfl) (by rfl), mj_inP 21 (by rfl) (by rfl)⟩
theorem dc_Ref_digestNow : ∀ e ∈ tb_Ref_digestNow, decode (mj_cc me_Ref_digestNow) e.1 = .ok (e.2.1, e.2.2.1) ∧ mj_xb lc_Ref e = true := by decide +kernel
theorem ok_Ref_digestNow : mj_ok me_Ref_digestNow := ⟨dc_Ref_digestNow, fk_Ref, lk_Ref, ci_Ref⟩
set_option maxRecDepth 100000 in
theorem ck_Ref_digestNow : mj_ck me_Ref_digestNow 0 := ⟨mj_inG 766 (by rfl) (by rfl), mj_inG 7 (by rfl) (by rfl), by decide +kernel, by decide +kernel, rfl⟩
set_option maxRecDepth 100000 in
theorem iv_Ref_digestNow : mj_iv me_Ref_digestNow := ⟨mj_inG 765 (by rfl) (by rfl), mj_inP 20 (by rfl) (by rfl)⟩
theorem dc_Ref_truth : ∀ e ∈ tb_Ref_truth, decode (mj_cc me_Ref_truth) e.1 = .ok (e.2.1, e.2.2.1) ∧ mj_xb lc_Ref e = true := by decide +kernel
theorem ok_Ref_truth : mj_ok me_Ref_truth := ⟨dc_Ref_truth, fk_Ref, lk_Ref, ci_Ref⟩
set_option maxRecDepth 100000 in
theorem ck_Ref_truth : mj_ck me_Ref_truth 2 := ⟨mj_inG 733 (by rfl) (by rfl), mj_inG 7 (by rfl) (by rfl), by decide +kernel, by decide +kernel, rfl⟩
set_option maxRecDepth 100000 in
theorem iv_Ref_truth : mj_iv me_Ref_truth := ⟨mj_inG 731 (by rfl) (by rfl), mj_inG 732 (by rfl) (by rfl)⟩
theorem dc_Ref_state : ∀ e ∈ tb_Ref_state, decode (mj_cc me_Ref_state) e.1 = .ok (e.2.1, e.2.2.1) ∧ mj_xb lc_Ref e = true := by decide +kernel
theorem ok_Ref_state : mj_ok me_Ref_state := ⟨dc_Ref_state, fk_Ref, lk_Ref, ci_Ref⟩
set_option maxRecDepth 100000 in
theorem ck_Ref_state : mj_ck me_Ref_state 3 := ⟨mj_inG 780 (by rfl) (by rfl), mj_inG 7 (by rfl) (by rfl), by decide +kernel, by decide +kernel, rfl⟩
set_option maxRecDepth 100000 in
theorem iv_Ref_state : mj_iv me_Ref_state := ⟨mj_inG 778 (by rfl) (by rfl), mj_inG 779 (by rfl) (by rfl)⟩
theorem dc_Ref_node : ∀ e ∈ tb_Ref_node, decode (mj_cc me_Ref_node) e.1 = .ok (e.2.1, e.2.2.1) ∧ mj_xb lc_Ref e = true := by decide +kernel
theorem ok_Ref_node : mj_ok me_Ref_node := ⟨dc_Ref_node, fk_Ref, lk_Ref, ci_Ref⟩
set_option maxRecDepth 100000 in
theorem ck_Ref_node : mj_ck me_Ref_node 3 := ⟨mj_inG 784 (by rfl) (by rfl), mj_inG 7 (by rfl) (by rfl), by decide +kernel, by decide +kernel, rfl⟩
set_option maxRecDepth 100000 in
theorem iv_Ref_node : mj_iv me_Ref_node := ⟨mj_inG 782 (by rfl) (by rfl), mj_inG 783 (by rfl) (by rfl)⟩
theorem dc_Ref_isPlayer : ∀ e ∈ tb_Ref_isPlayer, decode (mj_cc me_Ref_isPlayer) e.1 = .ok (e.2.1, e.2.2.1) ∧ mj_xb lc_Ref e = true := by decide +kernel
theorem ok_Ref_isPlayer : mj_ok me_Ref_isPlayer := ⟨dc_Ref_isPlayer, fk_Ref, lk_Ref, ci_Ref⟩
set_option maxRecDepth 100000 in
theorem ck_Ref_isPlayer : mj_ck me_Ref_isPlayer 1 := ⟨mj_inG 791 (by rfl) (by rfl), mj_inG 7 (by rfl) (by rfl), by decide +kernel, by decide +kernel, rfl⟩
set_option maxRecDepth 100000 in
theorem iv_Ref_isPlayer : Cond.static (mj_y me_Ref_isPlayer) ∈ mj_G := mj_inG 790 (by rfl) (by rfl)
theorem dc_Ref_isClaim : ∀ e ∈ tb_Ref_isClaim, decode (mj_cc me_Ref_isClaim) e.1 = .ok (e.2.1, e.2.2.1) ∧ mj_xb lc_Ref e = true := by decide +kernel
theorem ok_Ref_isClaim : mj_ok me_Ref_isClaim := ⟨dc_Ref_isClaim, fk_Ref, lk_Ref, ci_Ref⟩
set_option maxRecDepth 100000 in
theorem ck_Ref_isClaim : mj_ck me_Ref_isClaim 1 := ⟨mj_inG 799 (by rfl) (by rfl), mj_inG 7 (by rfl) (by rfl), by decide +kernel, by decide +kernel, rfl⟩
set_option maxRecDepth 100000 in
theorem iv_Ref_isClaim : mj_iv me_Ref_isClaim := ⟨mj_inG 798 (by rfl) (by rfl), mj_inP 22 (by rfl) (by rfl)⟩
theorem dc_Ref_isDispute : ∀ e ∈ tb_Ref_isDispute, decode (mj_cc me_Ref_isDispute) e.1 = .ok (e.2.1, e.2.2.1) ∧ mj_xb lc_Ref e = true := by decide +kernel
theorem ok_Ref_isDispute : mj_ok me_Ref_isDispute := ⟨dc_Ref_isDispute, fk_Ref, lk_Ref, ci_Ref⟩
set_option maxRecDepth 100000 in
theorem ck_Ref_isDispute : mj_ck me_Ref_isDispute 1 := ⟨mj_inG 812 (by rfl) (by rfl), mj_inG 7 (by rfl) (by rfl), by decide +kernel, by decide +kernel, rfl⟩
set_option maxRecDepth 100000 in
theorem iv_Ref_isDispute : mj_iv me_Ref_isDispute := ⟨mj_inG 811 (by rfl) (by rfl), mj_inP 24 (by rfl) (by rfl)⟩
theorem dc_Ref_openAt : ∀ e ∈ tb_Ref_openAt, decode (mj_cc me_Ref_openAt) e.1 = .ok (e.2.1, e.2.2.1) ∧ mj_xb lc_Ref e = true := by decide +kernel
theorem ok_Ref_openAt : mj_ok me_Ref_openAt := ⟨dc_Ref_openAt, fk_Ref, lk_Ref, ci_Ref⟩
set_option maxRecDepth 100000 in
theorem ck_Ref_openAt : mj_ck me_Ref_openAt 1 := ⟨mj_inG 803 (by rfl) (by rfl), mj_inG 7 (by rfl) (by rfl), by decide +kernel, by decide +kernel, rfl⟩
set_option maxRecDepth 100000 in
theorem iv_Ref_openAt : mj_iv me_Ref_openAt := ⟨mj_inG 802 (by rfl) (by rfl), mj_inP 23 (by rfl) (by rfl)⟩
theorem dc_Ref_claim : ∀ e ∈ tb_Ref_claim, decode (mj_cc me_Ref_claim) e.1 = .ok (e.2.1, e.2.2.1) ∧ mj_xb lc_Ref e = true := by decide +kernel
theorem ok_Ref_claim : mj_ok me_Ref_claim := ⟨dc_Ref_claim, fk_Ref, lk_Ref, ci_Ref⟩
set_option maxRecDepth 100000 in
theorem ck_Ref_claim : mj_ck me_Ref_claim 3 := ⟨mj_inG 788 (by rfl) (by rfl), mj_inG 7 (by rfl) (by rfl), by decide +kernel, by decide +kernel, rfl⟩
set_option maxRecDepth 100000 in
theorem iv_Ref_claim : mj_iv me_Ref_claim := ⟨mj_inG 786 (by rfl) (by rfl), mj_inG 787 (by rfl) (by rfl)⟩
theorem dc_Ref_dispute : ∀ e ∈ tb_Ref_dispute, decode (mj_cc me_Ref_dispute) e.1 = .ok (e.2.1, e.2.2.1) ∧ mj_xb lc_Ref e = true := by decide +kernel
theorem ok_Ref_dispute : mj_ok me_Ref_dispute := ⟨dc_Ref_dispute, fk_Ref, lk_Ref, ci_Ref⟩
set_option maxRecDepth 100000 in
theorem ck_Ref_dispute : mj_ck me_Ref_dispute 2 := ⟨mj_inG 795 (by rfl) (by rfl), mj_inG 7 (by rfl) (by rfl), by decide +kernel, by decide +kernel, rfl⟩
set_option maxRecDepth 100000 in
theorem iv_Ref_dispute : mj_iv me_Ref_dispute := ⟨mj_inG 793 (by rfl) (by rfl), mj_inG 794 (by rfl) (by rfl)⟩
theorem dc_Ref_tell : ∀ e ∈ tb_Ref_tell, decode (mj_cc me_Ref_tell) e.1 = .ok (e.2.1, e.2.2.1) ∧ mj_xb lc_Ref e = true := by decide +kernel
theorem ok_Ref_tell : mj_ok me_Ref_tell := ⟨dc_Ref_tell, fk_Ref, lk_Ref, ci_Ref⟩
set_option maxRecDepth 100000 in
theorem ck_Ref_tell : mj_ck me_Ref_tell 2 := ⟨mj_inG 808 (by rfl) (by rfl), mj_inG 7 (by rfl) (by rfl), by decide +kernel, by decide +kernel, rfl⟩
set_option maxRecDepth 100000 in
theorem iv_Ref_tell : mj_iv me_Ref_tell := ⟨mj_inG 806 (by rfl) (by rfl), mj_inG 807 (by rfl) (by rfl)⟩
theorem dc_Ref_choose : ∀ e ∈ tb_Ref_choose, decode (mj_cc me_Ref_choose) e.1 = .ok (e.2.1, e.2.2.1) ∧ mj_xb lc_Ref e = true := by decide +kernel
theorem ok_Ref_choose : mj_ok me_Ref_choose := ⟨dc_Ref_choose, fk_Ref, lk_Ref, ci_Ref⟩
set_option maxRecDepth 100000 in
theorem ck_Ref_choose : mj_ck me_Ref_choose 2 := ⟨mj_inG 816 (by rfl) (by rfl), mj_inG 7 (by rfl) (by rfl), by decide +kernel, by decide +kernel, rfl⟩
set_option maxRecDepth 100000 in
theorem iv_Ref_choose : mj_iv me_Ref_choose := ⟨mj_inG 814 (by rfl) (by rfl), mj_inG 815 (by rfl) (by rfl)⟩
theorem dc_Ref_claimantWins : ∀ e ∈ tb_Ref_claimantWins, decode (mj_cc me_Ref_claimantWins) e.1 = .ok (e.2.1, e.2.2.1) ∧ mj_xb lc_Ref e = true := by decide +kernel
theorem ok_Ref_claimantWins : mj_ok me_Ref_claimantWins := ⟨dc_Ref_claimantWins, fk_Ref, lk_Ref, ci_Ref⟩
set_option maxRecDepth 100000 in
theorem ck_Ref_claimantWins : mj_ck me_Ref_claimantWins 1 := ⟨mj_inG 849 (by rfl) (by rfl), mj_inG 7 (by rfl) (by rfl), by decide +kernel, by decide +kernel, rfl⟩
set_option maxRecDepth 100000 in
theorem iv_Ref_claimantWins : mj_iv me_Ref_claimantWins := ⟨mj_inG 848 (by rfl) (by rfl), mj_inP 28 (by rfl) (by rfl)⟩
theorem dc_Ref_disputerWins : ∀ e ∈ tb_Ref_disputerWins, decode (mj_cc me_Ref_disputerWins) e.1 = .ok (e.2.1, e.2.2.1) ∧ mj_xb lc_Ref e = true := by decide +kernel
theorem ok_Ref_disputerWins : mj_ok me_Ref_disputerWins := ⟨dc_Ref_disputerWins, fk_Ref, lk_Ref, ci_Ref⟩
set_option maxRecDepth 100000 in
theorem ck_Ref_disputerWins : mj_ck me_Ref_disputerWins 1 := ⟨mj_inG 853 (by rfl) (by rfl), mj_inG 7 (by rfl) (by rfl), by decide +kernel, by decide +kernel, rfl⟩
set_option maxRecDepth 100000 in
theorem iv_Ref_disputerWins : mj_iv me_Ref_disputerWins := ⟨mj_inG 852 (by rfl) (by rfl), mj_inP 29 (by rfl) (by rfl)⟩
theorem dc_Ref_paper : ∀ e ∈ tb_Ref_paper, decode (mj_cc me_Ref_paper) e.1 = .ok (e.2.1, e.2.2.1) ∧ mj_xb lc_Ref e = true := by decide +kernel
theorem ok_Ref_paper : mj_ok me_Ref_paper := ⟨dc_Ref_paper, fk_Ref, lk_Ref, ci_Ref⟩
set_option maxRecDepth 100000 in
theorem ck_Ref_paper : mj_ck me_Ref_paper 2 := ⟨mj_inG 820 (by rfl) (by rfl), mj_inG 7 (by rfl) (by rfl), by decide +kernel, by decide +kernel, rfl⟩
set_option maxRecDepth 100000 in
theorem iv_Ref_paper : mj_iv me_Ref_paper := ⟨mj_inG 818 (by rfl) (by rfl), mj_inG 819 (by rfl) (by rfl)⟩
theorem dc_Ref_onPaper : ∀ e ∈ tb_Ref_onPaper, decode (mj_cc me_Ref_onPaper) e.1 = .ok (e.2.1, e.2.2.1) ∧ mj_xb lc_Ref e = true := by decide +kernel
theorem ok_Ref_onPaper : mj_ok me_Ref_onPaper := ⟨dc_Ref_onPaper, fk_Ref, lk_Ref, ci_Ref⟩
set_option maxRecDepth 100000 in
theorem ck_Ref_onPaper : mj_ck me_Ref_onPaper 1 := ⟨mj_inG 828 (by rfl) (by rfl), mj_inG 7 (by rfl) (by rfl), by decide +kernel, by decide +kernel, rfl⟩
set_option maxRecDepth 100000 in
theorem iv_Ref_onPaper : mj_iv me_Ref_onPaper := ⟨mj_inG 827 (by rfl) (by rfl), mj_inP 25 (by rfl) (by rfl)⟩
theorem dc_Ref_cell : ∀ e ∈ tb_Ref_cell, decode (mj_cc me_Ref_cell) e.1 = .ok (e.2.1, e.2.2.1) ∧ mj_xb lc_Ref e = true := by decide +kernel
theorem ok_Ref_cell : mj_ok me_Ref_cell := ⟨dc_Ref_cell, fk_Ref, lk_Ref, ci_Ref⟩
set_option maxRecDepth 100000 in
theorem ck_Ref_cell : mj_ck me_Ref_cell 6 := ⟨mj_inG 824 (by rfl) (by rfl), mj_inG 7 (by rfl) (by rfl), by decide +kernel, by decide +kernel, rfl⟩
set_option maxRecDepth 100000 in
theorem iv_Ref_cell : mj_iv me_Ref_cell := ⟨mj_inG 822 (by rfl) (by rfl), mj_inG 823 (by rfl) (by rfl)⟩
theorem dc_Ref_upFrom : ∀ e ∈ tb_Ref_upFrom, decode (mj_cc me_Ref_upFrom) e.1 = .ok (e.2.1, e.2.2.1) ∧ mj_xb lc_Ref e = true := by decide +kernel
theorem ok_Ref_upFrom : mj_ok me_Ref_upFrom := ⟨dc_Ref_upFrom, fk_Ref, lk_Ref, ci_Ref⟩
set_option maxRecDepth 100000 in
theorem ck_Ref_upFrom : mj_ck me_Ref_upFrom 2 := ⟨mj_inG 836 (by rfl) (by rfl), mj_inG 7 (by rfl) (by rfl), by decide +kernel, by decide +kernel, rfl⟩
set_option maxRecDepth 100000 in
theorem iv_Ref_upFrom : mj_iv me_Ref_upFrom := ⟨mj_inG 835 (by rfl) (by rfl), mj_inP 26 (by rfl) (by rfl)⟩
theorem dc_Ref_hasCells : ∀ e ∈ tb_Ref_hasCells, decode (mj_cc me_Ref_hasCells) e.1 = .ok (e.2.1, e.2.2.1) ∧ mj_xb lc_Ref e = true := by decide +kernel
theorem ok_Ref_hasCells : mj_ok me_Ref_hasCells := ⟨dc_Ref_hasCells, fk_Ref, lk_Ref, ci_Ref⟩
set_option maxRecDepth 100000 in
theorem ck_Ref_hasCells : mj_ck me_Ref_hasCells 1 := ⟨mj_inG 840 (by rfl) (by rfl), mj_inG 7 (by rfl) (by rfl), by decide +kernel, by decide +kernel, rfl⟩
set_option maxRecDepth 100000 in
theorem iv_Ref_hasCells : mj_iv me_Ref_hasCells := ⟨mj_inG 839 (by rfl) (by rfl), mj_inP 27 (by rfl) (by rfl)⟩
theorem dc_Ref_judge : ∀ e ∈ tb_Ref_judge, decode (mj_cc me_Ref_judge) e.1 = .ok (e.2.1, e.2.2.1) ∧ mj_xb lc_Ref e = true := by decide +kernel
theorem ok_Ref_judge : mj_ok me_Ref_judge := ⟨dc_Ref_judge, fk_Ref, lk_Ref, ci_Ref⟩
set_option maxRecDepth 100000 in
theorem ck_Ref_judge : mj_ck me_Ref_judge 3 := ⟨mj_inG 832 (by rfl) (by rfl), mj_inG 7 (by rfl) (by rfl), by decide +kernel, by decide +kernel, rfl⟩
set_option maxRecDepth 100000 in
theorem iv_Ref_judge : mj_iv me_Ref_judge := ⟨mj_inG 830 (by rfl) (by rfl), mj_inG 831 (by rfl) (by rfl)⟩
theorem dc_Ref_prove : ∀ e ∈ tb_Ref_prove, decode (mj_cc me_Ref_prove) e.1 = .ok (e.2.1, e.2.2.1) ∧ mj_xb lc_Ref e = true := by decide +kernel
theorem ok_Ref_prove : mj_ok me_Ref_prove := ⟨dc_Ref_prove, fk_Ref, lk_Ref, ci_Ref⟩
set_option maxRecDepth 100000 in
theorem ck_Ref_prove : mj_ck me_Ref_prove 1 := ⟨mj_inG 844 (by rfl) (by rfl), mj_inG 7 (by rfl) (by rfl), by decide +kernel, by decide +kernel, rfl⟩
set_option maxRecDepth 100000 in
theorem iv_Ref_prove : mj_iv me_Ref_prove := ⟨mj_inG 842 (by rfl) (by rfl), mj_inG 843 (by rfl) (by rfl)⟩
theorem dc_Ref_write : ∀ e ∈ tb_Ref_write, decode (mj_cc me_Ref_write) e.1 = .ok (e.2.1, e.2.2.1) ∧ mj_xb lc_Ref e = true := by decide +kernel
theorem ok_Ref_write : mj_ok me_Ref_write := ⟨dc_Ref_write, fk_Ref, lk_Ref, ci_Ref⟩
set_option maxRecDepth 100000 in
theorem ck_Ref_write : mj_ck me_Ref_write 2 := ⟨mj_inG 857 (by rfl) (by rfl), mj_inG 7 (by rfl) (by rfl), by decide +kernel, by decide +kernel, rfl⟩
set_option maxRecDepth 100000 in
theorem iv_Ref_write : mj_iv me_Ref_write := ⟨mj_inG 855 (by rfl) (by rfl), mj_inG 856 (by rfl) (by rfl)⟩
theorem dc_Ref_tickOnce : ∀ e ∈ tb_Ref_tickOnce, decode (mj_cc me_Ref_tickOnce) e.1 = .ok (e.2.1, e.2.2.1) ∧ mj_xb lc_Ref e = true := by decide +kernel
theorem ok_Ref_tickOnce : mj_ok me_Ref_tickOnce := ⟨dc_Ref_tickOnce, fk_Ref, lk_Ref, ci_Ref⟩
set_option maxRecDepth 100000 in
theorem ck_Ref_tickOnce : mj_ck me_Ref_tickOnce 0 := ⟨mj_inG 867 (by rfl) (by rfl), mj_inG 7 (by rfl) (by rfl), by decide +kernel, by decide +kernel, rfl⟩
set_option maxRecDepth 100000 in
theorem iv_Ref_tickOnce : mj_iv me_Ref_tickOnce := ⟨mj_inG 866 (by rfl) (by rfl), mj_inP 30 (by rfl) (by rfl)⟩
theorem dc_Ref_tick : ∀ e ∈ tb_Ref_tick, decode (mj_cc me_Ref_tick) e.1 = .ok (e.2.1, e.2.2.1) ∧ mj_xb lc_Ref e = true := by decide +kernel
theorem ok_Ref_tick : mj_ok me_Ref_tick := ⟨dc_Ref_tick, fk_Ref, lk_Ref, ci_Ref⟩
set_option maxRecDepth 100000 in
theorem ck_Ref_tick : mj_ck me_Ref_tick 1 := ⟨mj_inG 863 (by rfl) (by rfl), mj_inG 7 (by rfl) (by rfl), by decide +kernel, by decide +kernel, rfl⟩
set_option maxRecDepth 100000 in
theorem iv_Ref_tick : mj_iv me_Ref_tick := ⟨mj_inG 861 (by rfl) (by rfl), mj_inG 862 (by rfl) (by rfl)⟩
theorem dc_Ref_ofClaim : ∀ e ∈ tb_Ref_ofClaim, decode (mj_cc me_Ref_ofClaim) e.1 = .ok (e.2.1, e.2.2.1) ∧ mj_xb lc_Ref e = true := by decide +kernel
theorem ok_Ref_ofClaim : mj_ok me_Ref_ofClaim := ⟨dc_Ref_ofClaim, fk_Ref, lk_Ref, ci_Ref⟩
set_option maxRecDepth 100000 in
theorem ck_Ref_ofClaim : mj_ck me_Ref_ofClaim 2 := ⟨mj_inG 871 (by rfl) (by rfl), mj_inG 7 (by rfl) (by rfl), by decide +kernel, by decide +kernel, rfl⟩
set_option maxRecDepth 100000 in
theorem iv_Ref_ofClaim : mj_iv me_Ref_ofClaim := ⟨mj_inG 869 (by rfl) (by rfl), mj_inG 870 (by rfl) (by rfl)⟩
theorem dc_Ref_ofDispute : ∀ e ∈ tb_Ref_ofDispute, decode (mj_cc me_Ref_ofDispute) e.1 = .ok (e.2.1, e.2.2.1) ∧ mj_xb lc_Ref e = true := by decide +kernel
theorem ok_Ref_ofDispute : mj_ok me_Ref_ofDispute := ⟨dc_Ref_ofDispute, fk_Ref, lk_Ref, ci_Ref⟩
set_option maxRecDepth 100000 in
theorem ck_Ref_ofDispute : mj_ck me_Ref_ofDispute 2 := ⟨mj_inG 875 (by rfl) (by rfl), mj_inG 7 (by rfl) (by rfl), by decide +kernel, by decide +kernel, rfl⟩
set_option maxRecDepth 100000 in
theorem iv_Ref_ofDispute : mj_iv me_Ref_ofDispute := ⟨mj_inG 873 (by rfl) (by rfl), mj_inG 874 (by rfl) (by rfl)⟩
theorem dc_Ref_digest : ∀ e ∈ tb_Ref_digest, decode (mj_cc me_Ref_digest) e.1 = .ok (e.2.1, e.2.2.1) ∧ mj_xb lc_Ref e = true := by decide +kernel
theorem ok_Ref_digest : mj_ok me_Ref_digest := ⟨dc_Ref_digest, fk_Ref, lk_Ref, ci_Ref⟩
set_option maxRecDepth 100000 in
theorem ck_Ref_digest : mj_ck me_Ref_digest 2 := ⟨mj_inG 879 (by rfl) (by rfl), mj_inG 7 (by rfl) (by rfl), by decide +kernel, by decide +kernel, rfl⟩
set_option maxRecDepth 100000 in
theorem iv_Ref_digest : mj_iv me_Ref_digest := ⟨mj_inG 877 (by rfl) (by rfl), mj_inG 878 (by rfl) (by rfl)⟩
theorem dc_Ref_purse : ∀ e ∈ tb_Ref_purse, decode (mj_cc me_Ref_purse) e.1 = .ok (e.2.1, e.2.2.1) ∧ mj_xb lc_Ref e = true := by decide +kernel
theorem ok_Ref_purse : mj_ok me_Ref_purse := ⟨dc_Ref_purse, fk_Ref, lk_Ref, ci_Ref⟩
set_option maxRecDepth 100000 in
theorem ck_Ref_purse : mj_ck me_Ref_purse 1 := ⟨mj_inG 883 (by rfl) (by rfl), mj_inG 7 (by rfl) (by rfl), by decide +kernel, by decide +kernel, rfl⟩
set_option maxRecDepth 100000 in
theorem iv_Ref_purse : mj_iv me_Ref_purse := ⟨mj_inG 881 (by rfl) (by rfl), mj_inG 882 (by rfl) (by rfl)⟩
theorem dc_Ref_sum : ∀ e ∈ tb_Ref_sum, decode (mj_cc me_Ref_sum) e.1 = .ok (e.2.1, e.2.2.1) ∧ mj_xb lc_Ref e = true := by decide +kernel
theorem ok_Ref_sum : mj_ok me_Ref_sum := ⟨dc_Ref_sum, fk_Ref, lk_Ref, ci_Ref⟩
set_option maxRecDepth 100000 in
theorem ck_Ref_sum : mj_ck me_Ref_sum 0 := ⟨mj_inG 887 (by rfl) (by rfl), mj_inG 7 (by rfl) (by rfl), by decide +kernel, by decide +kernel, rfl⟩
set_option maxRecDepth 100000 in
theorem iv_Ref_sum : mj_iv me_Ref_sum := ⟨mj_inG 885 (by rfl) (by rfl), mj_inG 886 (by rfl) (by rfl)⟩
theorem dc_Ref_clear : ∀ e ∈ tb_Ref_clear, decode (mj_cc me_Ref_clear) e.1 = .ok (e.2.1, e.2.2.1) ∧ mj_xb lc_Ref e = true := by decide +kernel
theorem ok_Ref_clear : mj_ok me_Ref_clear := ⟨dc_Ref_clear, fk_Ref, lk_Ref, ci_Ref⟩
set_option maxRecDepth 100000 in
theorem ck_Ref_clear : mj_ck me_Ref_clear 0 := ⟨mj_inG 891 (by rfl) (by rfl), mj_inG 7 (by rfl) (by rfl), by decide +kernel, by decide +kernel, rfl⟩
set_option maxRecDepth 100000 in
theorem iv_Ref_clear : mj_iv me_Ref_clear := ⟨mj_inG 889 (by rfl) (by rfl), mj_inG 890 (by rfl) (by rfl)⟩
theorem dc_law_0 : ∀ e ∈ (tb_law.drop 0).take 60, decode (mj_cc me_law) e.1 = .ok (e.2.1, e.2.2.1) ∧ mj_xb lc_Law e = true := by decide +kernel
theorem dc_law_1 : ∀ e ∈ (tb_law.drop 60).take 60, decode (mj_cc me_law) e.1 = .ok (e.2.1, e.2.2.1) ∧ mj_xb lc_Law e = true := by decide +kernel
theorem dc_law_2 : ∀ e ∈ (tb_law.drop 120).take 60, decode (mj_cc me_law) e.1 = .ok (e.2.1, e.2.2.1) ∧ mj_xb lc_Law e = true := by decide +kernel
theorem dc_law_3 : ∀ e ∈ (tb_law.drop 180).take 60, decode (mj_cc me_law) e.1 = .ok (e.2.1, e.2.2.1) ∧ mj_xb lc_Law e = true := by decide +kernel
theorem dc_law_4 : ∀ e ∈ (tb_law.drop 240).take 60, decode (mj_cc me_law) e.1 = .ok (e.2.1, e.2.2.1) ∧ mj_xb lc_Law e = true := by decide +kernel
theorem dc_law_5 : ∀ e ∈ (tb_law.drop 300).take 60, decode (mj_cc me_law) e.1 = .ok (e.2.1, e.2.2.1) ∧ mj_xb lc_Law e = true := by decide +kernel
theorem dc_law_6 : ∀ e ∈ (tb_law.drop 360).take 60, decode (mj_cc me_law) e.1 = .ok (e.2.1, e.2.2.1) ∧ mj_xb lc_Law e = true := by decide +kernel
theorem dc_law_7 : ∀ e ∈ (tb_law.drop 420).take 60, decode (mj_cc me_law) e.1 = .ok (e.2.1, e.2.2.1) ∧ mj_xb lc_Law e = true := by decide +kernel
theorem dc_law_8 : ∀ e ∈ (tb_law.drop 480).take 60, decode (mj_cc me_law) e.1 = .ok (e.2.1, e.2.2.1) ∧ mj_xb lc_Law e = true := by decide +kernel
theorem dc_law_9 : ∀ e ∈ (tb_law.drop 540).take 60, decode (mj_cc me_law) e.1 = .ok (e.2.1, e.2.2.1) ∧ mj_xb lc_Law e = true := by decide +kernel
theorem dc_law_10 : ∀ e ∈ (tb_law.drop 600).take 60, decode (mj_cc me_law) e.1 = .ok (e.2.1, e.2.2.1) ∧ mj_xb lc_Law e = true := by decide +kernel
theorem dc_law_11 : ∀ e ∈ (tb_law.drop 660).take 60, decode (mj_cc me_law) e.1 = .ok (e.2.1, e.2.2.1) ∧ mj_xb lc_Law e = true := by decide +kernel
theorem dc_law_12 : ∀ e ∈ (tb_law.drop 720).take 60, decode (mj_cc me_law) e.1 = .ok (e.2.1, e.2.2.1) ∧ mj_xb lc_Law e = true := by decide +kernel
theorem dc_law_13 : ∀ e ∈ (tb_law.drop 780).take 60, decode (mj_cc me_law) e.1 = .ok (e.2.1, e.2.2.1) ∧ mj_xb lc_Law e = true := by decide +kernel
theorem dc_law_14 : ∀ e ∈ (tb_law.drop 840).take 60, decode (mj_cc me_law) e.1 = .ok (e.2.1, e.2.2.1) ∧ mj_xb lc_Law e = true := by decide +kernel
theorem mj_cut {α : Type} {P : α → Prop} {l : List α} (n : Nat) (a : ∀ e ∈ l.take n, P e) (b : ∀ e ∈ l.drop n, P e) : ∀ e ∈ l, P e := fun e h => by
  rw [← List.take_append_drop n l] at h
  exact (List.mem_append.mp h).elim (a e) (b e)
theorem dc_law_e : ∀ e ∈ tb_law.drop 900, decode (mj_cc me_law) e.1 = .ok (e.2.1, e.2.2.1) ∧ mj_xb lc_Law e = true := by decide +kernel
theorem dc_law_f14 : ∀ e ∈ tb_law.drop 840, decode (mj_cc me_law) e.1 = .ok (e.2.1, e.2.2.1) ∧ mj_xb lc_Law e = true := mj_cut 60 dc_law_14 (by rw [List.drop_drop]; exact dc_law_e)
theorem dc_law_f13 : ∀ e ∈ tb_law.drop 780, decode (mj_cc me_law) e.1 = .ok (e.2.1, e.2.2.1) ∧ mj_xb lc_Law e = true := mj_cut 60 dc_law_13 (by rw [List.drop_drop]; exact dc_law_f14)
theorem dc_law_f12 : ∀ e ∈ tb_law.drop 720, decode (mj_cc me_law) e.1 = .ok (e.2.1, e.2.2.1) ∧ mj_xb lc_Law e = true := mj_cut 60 dc_law_12 (by rw [List.drop_drop]; exact dc_law_f13)
theorem dc_law_f11 : ∀ e ∈ tb_law.drop 660, decode (mj_cc me_law) e.1 = .ok (e.2.1, e.2.2.1) ∧ mj_xb lc_Law e = true := mj_cut 60 dc_law_11 (by rw [List.drop_drop]; exact dc_law_f12)
theorem dc_law_f10 : ∀ e ∈ tb_law.drop 600, decode (mj_cc me_law) e.1 = .ok (e.2.1, e.2.2.1) ∧ mj_xb lc_Law e = true := mj_cut 60 dc_law_10 (by rw [List.drop_drop]; exact dc_law_f11)
theorem dc_law_f9 : ∀ e ∈ tb_law.drop 540, decode (mj_cc me_law) e.1 = .ok (e.2.1, e.2.2.1) ∧ mj_xb lc_Law e = true := mj_cut 60 dc_law_9 (by rw [List.drop_drop]; exact dc_law_f10)
theorem dc_law_f8 : ∀ e ∈ tb_law.drop 480, decode (mj_cc me_law) e.1 = .ok (e.2.1, e.2.2.1) ∧ mj_xb lc_Law e = true := mj_cut 60 dc_law_8 (by rw [List.drop_drop]; exact dc_law_f9)
theorem dc_law_f7 : ∀ e ∈ tb_law.drop 420, decode (mj_cc me_law) e.1 = .ok (e.2.1, e.2.2.1) ∧ mj_xb lc_Law e = true := mj_cut 60 dc_law_7 (by rw [List.drop_drop]; exact dc_law_f8)
theorem dc_law_f6 : ∀ e ∈ tb_law.drop 360, decode (mj_cc me_law) e.1 = .ok (e.2.1, e.2.2.1) ∧ mj_xb lc_Law e = true := mj_cut 60 dc_law_6 (by rw [List.drop_drop]; exact dc_law_f7)
theorem dc_law_f5 : ∀ e ∈ tb_law.drop 300, decode (mj_cc me_law) e.1 = .ok (e.2.1, e.2.2.1) ∧ mj_xb lc_Law e = true := mj_cut 60 dc_law_5 (by rw [List.drop_drop]; exact dc_law_f6)
theorem dc_law_f4 : ∀ e ∈ tb_law.drop 240, decode (mj_cc me_law) e.1 = .ok (e.2.1, e.2.2.1) ∧ mj_xb lc_Law e = true := mj_cut 60 dc_law_4 (by rw [List.drop_drop]; exact dc_law_f5)
theorem dc_law_f3 : ∀ e ∈ tb_law.drop 180, decode (mj_cc me_law) e.1 = .ok (e.2.1, e.2.2.1) ∧ mj_xb lc_Law e = true := mj_cut 60 dc_law_3 (by rw [List.drop_drop]; exact dc_law_f4)
theorem dc_law_f2 : ∀ e ∈ tb_law.drop 120, decode (mj_cc me_law) e.1 = .ok (e.2.1, e.2.2.1) ∧ mj_xb lc_Law e = true := mj_cut 60 dc_law_2 (by rw [List.drop_drop]; exact dc_law_f3)
theorem dc_law_f1 : ∀ e ∈ tb_law.drop 60, decode (mj_cc me_law) e.1 = .ok (e.2.1, e.2.2.1) ∧ mj_xb lc_Law e = true := mj_cut 60 dc_law_1 (by rw [List.drop_drop]; exact dc_law_f2)
theorem dc_law_f0 : ∀ e ∈ tb_law.drop 0, decode (mj_cc me_law) e.1 = .ok (e.2.1, e.2.2.1) ∧ mj_xb lc_Law e = true := mj_cut 60 dc_law_0 (by rw [List.drop_drop]; exact dc_law_f1)
theorem dc_law : ∀ e ∈ tb_law, decode (mj_cc me_law) e.1 = .ok (e.2.1, e.2.2.1) ∧ mj_xb lc_Law e = true := dc_law_f0
theorem ok_law : mj_ok me_law := ⟨dc_law, fk_Law, lk_Law, ci_Law⟩
set_option maxRecDepth 100000 in
theorem oi_Program : Cond.methodLink RX8 3 objectInit ∈ mj_G := mj_inG 27 (by rfl) (by rfl)
set_option maxRecDepth 100000 in
theorem oi_Machine : Cond.methodLink RX5 3 objectInit ∈ mj_G := mj_inG 43 (by rfl) (by rfl)
set_option maxRecDepth 100000 in
theorem oi_OnPaper : Cond.methodLink RX6 3 objectInit ∈ mj_G := mj_inG 75 (by rfl) (by rfl)
set_option maxRecDepth 100000 in
theorem oi_Paper : Cond.methodLink RX7 3 objectInit ∈ mj_G := mj_inG 68 (by rfl) (by rfl)
set_option maxRecDepth 100000 in
theorem li_Paper_28 : Cond.methodLinkNest RX7 28 (mj_y me_OnPaper_init) "DisputeHalving" ∈ mj_N := mj_inN 72 (by rfl) (by rfl)
set_option maxRecDepth 100000 in
theorem oi_Court : Cond.methodLink RX2 3 objectInit ∈ mj_G := mj_inG 107 (by rfl) (by rfl)
set_option maxRecDepth 100000 in
theorem li_Court_40 : Cond.methodLink RX2 40 (mj_y me_Court_restart) ∈ mj_G := mj_inG 112 (by rfl) (by rfl)
set_option maxRecDepth 100000 in
theorem oi_Top : Cond.methodLink RX9 1 objectInit ∈ mj_G := mj_inG 17 (by rfl) (by rfl)
set_option maxRecDepth 100000 in
theorem li_Top_21 : Cond.methodLinkNest RX9 21 (mj_y me_Program_init) "DisputeHalving" ∈ mj_N := mj_inN 24 (by rfl) (by rfl)
set_option maxRecDepth 100000 in
theorem li_Top_28 : Cond.methodLinkNest RX9 28 (mj_y me_Machine_init) "DisputeHalving" ∈ mj_N := mj_inN 40 (by rfl) (by rfl)
set_option maxRecDepth 100000 in
theorem li_Top_35 : Cond.methodLink RX9 35 (mj_y me_Paper_init) ∈ mj_G := mj_inG 65 (by rfl) (by rfl)
set_option maxRecDepth 100000 in
theorem li_Top_42 : Cond.methodLink RX9 42 (mj_y me_Court_init) ∈ mj_G := mj_inG 104 (by rfl) (by rfl)
set_option maxRecDepth 100000 in
theorem oi_Instruction : Cond.methodLink RX4 3 objectInit ∈ mj_G := mj_inG 172 (by rfl) (by rfl)
set_option maxRecDepth 100000 in
theorem li_Top_47 : Cond.methodLink RX9 47 (mj_y me_Top_isCell) ∈ mj_G := mj_inG 164 (by rfl) (by rfl)
set_option maxRecDepth 100000 in
theorem li_Top_53 : Cond.methodLink RX9 53 (mj_y me_Instruction_init) ∈ mj_G := mj_inG 169 (by rfl) (by rfl)
set_option maxRecDepth 100000 in
theorem li_Top_56 : Cond.methodLink RX9 56 (mj_y me_Program_append) ∈ mj_G := mj_inG 192 (by rfl) (by rfl)
set_option maxRecDepth 100000 in
theorem oi_Batch : Cond.methodLink RX0 1 objectInit ∈ mj_G := mj_inG 204 (by rfl) (by rfl)
set_option maxRecDepth 100000 in
theorem li_Top_63 : Cond.methodLink RX9 63 (mj_y me_Batch_init) ∈ mj_G := mj_inG 201 (by rfl) (by rfl)
set_option maxRecDepth 100000 in
theorem li_Top_66 : Cond.methodLink RX9 66 (mj_y me_Batch_setFirst) ∈ mj_G := mj_inG 219 (by rfl) (by rfl)
set_option maxRecDepth 100000 in
theorem li_Machine_57 : Cond.methodLink RX5 57 (mj_y me_Instruction_toldCell) ∈ mj_G := mj_inG 251 (by rfl) (by rfl)
set_option maxRecDepth 100000 in
theorem li_Machine_61 : Cond.methodLink RX5 61 (mj_y me_Instruction_writes) ∈ mj_G := mj_inG 255 (by rfl) (by rfl)
set_option maxRecDepth 100000 in
theorem li_Machine_68 : Cond.methodLink RX5 68 (mj_y me_Instruction_result) ∈ mj_G := mj_inG 259 (by rfl) (by rfl)
set_option maxRecDepth 100000 in
theorem li_Machine_72 : Cond.methodLink RX5 72 (mj_y me_Instruction_placeBehind) ∈ mj_G := mj_inG 263 (by rfl) (by rfl)
set_option maxRecDepth 100000 in
theorem li_Machine_31 : Cond.methodLink RX5 31 (mj_y me_Machine_begin) ∈ mj_G := mj_inG 239 (by rfl) (by rfl)
set_option maxRecDepth 100000 in
theorem li_Machine_39 : Cond.methodLink RX5 39 (mj_y me_Program_lineAt) ∈ mj_G := mj_inG 243 (by rfl) (by rfl)
set_option maxRecDepth 100000 in
theorem li_Machine_45 : Cond.methodLink RX5 45 (mj_y me_Machine_doStep) ∈ mj_G := mj_inG 247 (by rfl) (by rfl)
set_option maxRecDepth 100000 in
theorem li_Top_94 : Cond.methodLink RX9 94 (mj_y me_Top_batchAt) ∈ mj_G := mj_inG 231 (by rfl) (by rfl)
set_option maxRecDepth 100000 in
theorem li_Top_111 : Cond.methodLink RX9 111 (mj_y me_Machine_run) ∈ mj_G := mj_inG 235 (by rfl) (by rfl)
set_option maxRecDepth 100000 in
theorem li_Machine_75 : Cond.methodLinkNest RX5 75 (mj_y me_Top_mix) "DisputeHalving" ∈ mj_N := mj_inN 275 (by rfl) (by rfl)
set_option maxRecDepth 100000 in
theorem li_Machine_79 : Cond.methodLink RX5 79 (mj_y me_Machine_growTree) ∈ mj_G := mj_inG 271 (by rfl) (by rfl)
set_option maxRecDepth 100000 in
theorem li_Top_69 : Cond.methodLink RX9 69 (mj_y me_Top_reach) ∈ mj_G := mj_inG 227 (by rfl) (by rfl)
set_option maxRecDepth 100000 in
theorem li_Top_73 : Cond.methodLink RX9 73 (mj_y me_Machine_digestOfTree) ∈ mj_G := mj_inG 267 (by rfl) (by rfl)
set_option maxRecDepth 100000 in
theorem li_Top_87 : Cond.methodLink RX9 87 (mj_y me_Machine_growTree) ∈ mj_G := mj_inG 288 (by rfl) (by rfl)
set_option maxRecDepth 100000 in
theorem li_Court_50 : Cond.methodLinkNest RX2 50 (mj_y me_Top_isPlayer) "DisputeHalving" ∈ mj_N := mj_inN 297 (by rfl) (by rfl)
set_option maxRecDepth 100000 in
theorem oi_Claim : Cond.methodLink RX1 3 objectInit ∈ mj_G := mj_inG 308 (by rfl) (by rfl)
set_option maxRecDepth 100000 in
theorem li_Court_54 : Cond.methodLink RX2 54 (mj_y me_Court_pay) ∈ mj_G := mj_inG 300 (by rfl) (by rfl)
set_option maxRecDepth 100000 in
theorem li_Court_58 : Cond.methodLink RX2 58 (mj_y me_Claim_init) ∈ mj_G := mj_inG 305 (by rfl) (by rfl)
set_option maxRecDepth 100000 in
theorem li_Top_98 : Cond.methodLink RX9 98 (mj_y me_Court_openClaim) ∈ mj_G := mj_inG 293 (by rfl) (by rfl)
set_option maxRecDepth 100000 in
theorem oi_Dispute : Cond.methodLink RX3 3 objectInit ∈ mj_G := mj_inG 362 (by rfl) (by rfl)
set_option maxRecDepth 100000 in
theorem li_Court_68 : Cond.methodLink RX2 68 (mj_y me_Court_mayDispute) ∈ mj_G := mj_inG 354 (by rfl) (by rfl)
set_option maxRecDepth 100000 in
theorem li_Court_72 : Cond.methodLink RX2 72 (mj_y me_Dispute_init) ∈ mj_G := mj_inG 359 (by rfl) (by rfl)
set_option maxRecDepth 100000 in
theorem li_Top_102 : Cond.methodLink RX9 102 (mj_y me_Court_claimAt) ∈ mj_G := mj_inG 346 (by rfl) (by rfl)
set_option maxRecDepth 100000 in
theorem li_Top_118 : Cond.methodLink RX9 118 (mj_y me_Court_openDispute) ∈ mj_G := mj_inG 350 (by rfl) (by rfl)
set_option maxRecDepth 100000 in
theorem li_Top_122 : Cond.methodLink RX9 122 (mj_y me_Court_disputeAt) ∈ mj_G := mj_inG 421 (by rfl) (by rfl)
set_option maxRecDepth 100000 in
theorem li_Top_126 : Cond.methodLink RX9 126 (mj_y me_Dispute_turn) ∈ mj_G := mj_inG 425 (by rfl) (by rfl)
set_option maxRecDepth 100000 in
theorem li_Top_132 : Cond.methodLink RX9 132 (mj_y me_Dispute_takeMiddle) ∈ mj_G := mj_inG 429 (by rfl) (by rfl)
set_option maxRecDepth 100000 in
theorem li_Top_136 : Cond.methodLink RX9 136 (mj_y me_Dispute_middle) ∈ mj_G := mj_inG 433 (by rfl) (by rfl)
set_option maxRecDepth 100000 in
theorem li_Dispute_56 : Cond.methodLink RX3 56 (mj_y me_Dispute_middle) ∈ mj_G := mj_inG 445 (by rfl) (by rfl)
set_option maxRecDepth 100000 in
theorem li_Top_139 : Cond.methodLink RX9 139 (mj_y me_Dispute_halve) ∈ mj_G := mj_inG 441 (by rfl) (by rfl)
set_option maxRecDepth 100000 in
theorem li_Top_149 : Cond.methodLink RX9 149 (mj_y me_Paper_begin) ∈ mj_G := mj_inG 450 (by rfl) (by rfl)
set_option maxRecDepth 100000 in
theorem li_Top_153 : Cond.methodLink RX9 153 (mj_y me_Paper_find) ∈ mj_G := mj_inG 458 (by rfl) (by rfl)
set_option maxRecDepth 100000 in
theorem li_Top_157 : Cond.methodLink RX9 157 (mj_y me_Paper_append) ∈ mj_G := mj_inG 462 (by rfl) (by rfl)
set_option maxRecDepth 100000 in
theorem li_Top_160 : Cond.methodLink RX9 160 (mj_y me_OnPaper_setBeside) ∈ mj_G := mj_inG 466 (by rfl) (by rfl)
set_option maxRecDepth 100000 in
theorem li_OnPaper_22 : Cond.methodLinkNest RX6 22 (mj_y me_Top_mix) "DisputeHalving" ∈ mj_N := mj_inN 487 (by rfl) (by rfl)
set_option maxRecDepth 100000 in
theorem li_Paper_75 : Cond.methodLink RX7 75 (mj_y me_OnPaper_rootWith) ∈ mj_G := mj_inG 483 (by rfl) (by rfl)
set_option maxRecDepth 100000 in
theorem li_Paper_79 : Cond.methodLink RX7 79 (mj_y me_Instruction_writes) ∈ mj_G := mj_inG 499 (by rfl) (by rfl)
set_option maxRecDepth 100000 in
theorem li_Paper_85 : Cond.methodLink RX7 85 (mj_y me_Instruction_result) ∈ mj_G := mj_inG 500 (by rfl) (by rfl)
set_option maxRecDepth 100000 in
theorem li_Paper_35 : Cond.methodLinkNest RX7 35 (mj_y me_Top_mix) "DisputeHalving" ∈ mj_N := mj_inN 478 (by rfl) (by rfl)
set_option maxRecDepth 100000 in
theorem li_Paper_39 : Cond.methodLink RX7 39 (mj_y me_Paper_allWaysEndAtRoot) ∈ mj_G := mj_inG 479 (by rfl) (by rfl)
set_option maxRecDepth 100000 in
theorem li_Paper_43 : Cond.methodLink RX7 43 (mj_y me_Program_lineAt) ∈ mj_G := mj_inG 488 (by rfl) (by rfl)
set_option maxRecDepth 100000 in
theorem li_Paper_54 : Cond.methodLink RX7 54 (mj_y me_Paper_find) ∈ mj_G := mj_inG 489 (by rfl) (by rfl)
set_option maxRecDepth 100000 in
theorem li_Paper_58 : Cond.methodLink RX7 58 (mj_y me_Instruction_asksForB) ∈ mj_G := mj_inG 490 (by rfl) (by rfl)
set_option maxRecDepth 100000 in
theorem li_Paper_64 : Cond.methodLink RX7 64 (mj_y me_Instruction_toldCell) ∈ mj_G := mj_inG 494 (by rfl) (by rfl)
set_option maxRecDepth 100000 in
theorem li_Paper_68 : Cond.methodLink RX7 68 (mj_y me_Paper_rootBehind) ∈ mj_G := mj_inG 495 (by rfl) (by rfl)
set_option maxRecDepth 100000 in
theorem li_Paper_72 : Cond.methodLink RX7 72 (mj_y me_Instruction_placeBehind) ∈ mj_G := mj_inG 501 (by rfl) (by rfl)
set_option maxRecDepth 100000 in
theorem li_Court_43 : Cond.methodLink RX2 43 (mj_y me_Court_disputeAt) ∈ mj_G := mj_inG 518 (by rfl) (by rfl)
set_option maxRecDepth 100000 in
theorem li_Court_87 : Cond.methodLink RX2 87 (mj_y me_Court_openDisputeAt) ∈ mj_G := mj_inG 514 (by rfl) (by rfl)
set_option maxRecDepth 100000 in
theorem li_Court_83 : Cond.methodLink RX2 83 (mj_y me_Court_dropOpenDisputes) ∈ mj_G := mj_inG 510 (by rfl) (by rfl)
set_option maxRecDepth 100000 in
theorem li_Top_186 : Cond.methodLink RX9 186 (mj_y me_Paper_verdict) ∈ mj_G := mj_inG 474 (by rfl) (by rfl)
set_option maxRecDepth 100000 in
theorem li_Top_190 : Cond.methodLink RX9 190 (mj_y me_Court_claimantWins) ∈ mj_G := mj_inG 502 (by rfl) (by rfl)
set_option maxRecDepth 100000 in
theorem li_Top_194 : Cond.methodLink RX9 194 (mj_y me_Court_disputerWins) ∈ mj_G := mj_inG 506 (by rfl) (by rfl)
set_option maxRecDepth 100000 in
theorem li_Machine_82 : Cond.methodLink RX5 82 (mj_y me_Instruction_asksForB) ∈ mj_G := mj_inG 531 (by rfl) (by rfl)
set_option maxRecDepth 100000 in
theorem li_Top_197 : Cond.methodLink RX9 197 (mj_y me_Machine_askedCells) ∈ mj_G := mj_inG 527 (by rfl) (by rfl)
set_option maxRecDepth 100000 in
theorem li_Top_201 : Cond.methodLink RX9 201 (mj_y me_Top_copyToPaper) ∈ mj_G := mj_inG 532 (by rfl) (by rfl)
set_option maxRecDepth 100000 in
theorem li_Dispute_60 : Cond.methodLink RX3 60 (mj_y me_Dispute_turn) ∈ mj_G := mj_inG 552 (by rfl) (by rfl)
set_option maxRecDepth 100000 in
theorem li_Court_99 : Cond.methodLink RX2 99 (mj_y me_Dispute_countForTurn) ∈ mj_G := mj_inG 548 (by rfl) (by rfl)
set_option maxRecDepth 100000 in
theorem li_Court_105 : Cond.methodLink RX2 105 (mj_y me_Court_disputerWins) ∈ mj_G := mj_inG 553 (by rfl) (by rfl)
set_option maxRecDepth 100000 in
theorem li_Court_112 : Cond.methodLink RX2 112 (mj_y me_Court_claimantWins) ∈ mj_G := mj_inG 554 (by rfl) (by rfl)
set_option maxRecDepth 100000 in
theorem li_Court_115 : Cond.methodLink RX2 115 (mj_y me_Court_claimAt) ∈ mj_G := mj_inG 559 (by rfl) (by rfl)
set_option maxRecDepth 100000 in
theorem li_Court_119 : Cond.methodLink RX2 119 (mj_y me_Claim_ticksLeft) ∈ mj_G := mj_inG 560 (by rfl) (by rfl)
set_option maxRecDepth 100000 in
theorem li_Court_93 : Cond.methodLink RX2 93 (mj_y me_Court_countForDisputes) ∈ mj_G := mj_inG 544 (by rfl) (by rfl)
set_option maxRecDepth 100000 in
theorem li_Court_96 : Cond.methodLink RX2 96 (mj_y me_Court_acceptQuietClaims) ∈ mj_G := mj_inG 555 (by rfl) (by rfl)
set_option maxRecDepth 100000 in
theorem li_Top_205 : Cond.methodLink RX9 205 (mj_y me_Court_pass) ∈ mj_G := mj_inG 540 (by rfl) (by rfl)
set_option maxRecDepth 100000 in
theorem li_Top_220 : Cond.methodLink RX9 220 (mj_y me_Claim_ticksLeft) ∈ mj_G := mj_inG 568 (by rfl) (by rfl)
set_option maxRecDepth 100000 in
theorem li_Top_242 : Cond.methodLink RX9 242 (mj_y me_Top_isPlayer) ∈ mj_G := mj_inG 581 (by rfl) (by rfl)
set_option maxRecDepth 100000 in
theorem li_Top_248 : Cond.methodLink RX9 248 (mj_y me_Court_total) ∈ mj_G := mj_inG 586 (by rfl) (by rfl)
set_option maxRecDepth 100000 in
theorem li_Top_254 : Cond.methodLink RX9 254 (mj_y me_Court_restart) ∈ mj_G := mj_inG 594 (by rfl) (by rfl)
set_option maxRecDepth 100000 in
theorem oi_Ref : Cond.methodLink RX10 1 objectInit ∈ mj_G := mj_inG 600 (by rfl) (by rfl)
set_option maxRecDepth 100000 in
theorem li_Ref_117 : Cond.methodLink RX10 117 (mj_y me_Ref_at) ∈ mj_G := mj_inG 746 (by rfl) (by rfl)
set_option maxRecDepth 100000 in
theorem li_Ref_124 : Cond.methodLink RX10 124 (mj_y me_Ref_written) ∈ mj_G := mj_inG 750 (by rfl) (by rfl)
set_option maxRecDepth 100000 in
theorem li_Ref_128 : Cond.methodLink RX10 128 (mj_y me_Ref_valueOf) ∈ mj_G := mj_inG 754 (by rfl) (by rfl)
set_option maxRecDepth 100000 in
theorem li_Ref_131 : Cond.methodLink RX10 131 (mj_y me_Ref_placeBehind) ∈ mj_G := mj_inG 759 (by rfl) (by rfl)
set_option maxRecDepth 100000 in
theorem li_Ref_134 : Cond.methodLink RX10 134 (mj_y me_Ref_isBatch) ∈ mj_G := mj_inG 738 (by rfl) (by rfl)
set_option maxRecDepth 100000 in
theorem li_Ref_138 : Cond.methodLink RX10 138 (mj_y me_Ref_step) ∈ mj_G := mj_inG 742 (by rfl) (by rfl)
set_option maxRecDepth 100000 in
theorem li_Ref_144 : Cond.methodLink RX10 144 (mj_y me_Ref_mix) ∈ mj_G := mj_inG 772 (by rfl) (by rfl)
set_option maxRecDepth 100000 in
theorem li_Ref_148 : Cond.methodLink RX10 148 (mj_y me_Ref_makeTree) ∈ mj_G := mj_inG 767 (by rfl) (by rfl)
set_option maxRecDepth 100000 in
theorem li_Ref_151 : Cond.methodLink RX10 151 (mj_y me_Ref_walk) ∈ mj_G := mj_inG 734 (by rfl) (by rfl)
set_option maxRecDepth 100000 in
theorem li_Ref_155 : Cond.methodLink RX10 155 (mj_y me_Ref_digestNow) ∈ mj_G := mj_inG 763 (by rfl) (by rfl)
set_option maxRecDepth 100000 in
theorem li_Ref_165 : Cond.methodLink RX10 165 (mj_y me_Ref_isPlayer) ∈ mj_G := mj_inG 789 (by rfl) (by rfl)
set_option maxRecDepth 100000 in
theorem li_Ref_171 : Cond.methodLink RX10 171 (mj_y me_Ref_isClaim) ∈ mj_G := mj_inG 796 (by rfl) (by rfl)
set_option maxRecDepth 100000 in
theorem li_Ref_174 : Cond.methodLink RX10 174 (mj_y me_Ref_openAt) ∈ mj_G := mj_inG 800 (by rfl) (by rfl)
set_option maxRecDepth 100000 in
theorem li_Ref_177 : Cond.methodLink RX10 177 (mj_y me_Ref_truth) ∈ mj_G := mj_inG 804 (by rfl) (by rfl)
set_option maxRecDepth 100000 in
theorem li_Ref_181 : Cond.methodLink RX10 181 (mj_y me_Ref_isDispute) ∈ mj_G := mj_inG 809 (by rfl) (by rfl)
set_option maxRecDepth 100000 in
theorem li_Ref_194 : Cond.methodLink RX10 194 (mj_y me_Ref_onPaper) ∈ mj_G := mj_inG 825 (by rfl) (by rfl)
set_option maxRecDepth 100000 in
theorem li_Ref_197 : Cond.methodLink RX10 197 (mj_y me_Ref_upFrom) ∈ mj_G := mj_inG 833 (by rfl) (by rfl)
set_option maxRecDepth 100000 in
theorem li_Ref_200 : Cond.methodLink RX10 200 (mj_y me_Ref_hasCells) ∈ mj_G := mj_inG 837 (by rfl) (by rfl)
set_option maxRecDepth 100000 in
theorem li_Ref_203 : Cond.methodLink RX10 203 (mj_y me_Ref_judge) ∈ mj_G := mj_inG 845 (by rfl) (by rfl)
set_option maxRecDepth 100000 in
theorem li_Ref_207 : Cond.methodLink RX10 207 (mj_y me_Ref_claimantWins) ∈ mj_G := mj_inG 846 (by rfl) (by rfl)
set_option maxRecDepth 100000 in
theorem li_Ref_210 : Cond.methodLink RX10 210 (mj_y me_Ref_disputerWins) ∈ mj_G := mj_inG 850 (by rfl) (by rfl)
set_option maxRecDepth 100000 in
theorem li_Ref_213 : Cond.methodLink RX10 213 (mj_y me_Ref_paper) ∈ mj_G := mj_inG 858 (by rfl) (by rfl)
set_option maxRecDepth 100000 in
theorem li_Ref_217 : Cond.methodLink RX10 217 (mj_y me_Ref_cell) ∈ mj_G := mj_inG 859 (by rfl) (by rfl)
set_option maxRecDepth 100000 in
theorem li_Ref_221 : Cond.methodLink RX10 221 (mj_y me_Ref_tickOnce) ∈ mj_G := mj_inG 864 (by rfl) (by rfl)
set_option maxRecDepth 100000 in
theorem li_Law_9 : Cond.methodLink RL 9 (mj_y me_Top_init) ∈ mj_G := mj_inG 14 (by rfl) (by rfl)
set_option maxRecDepth 100000 in
theorem li_Law_12 : Cond.methodLink RL 12 (mj_y me_Ref_init) ∈ mj_G := mj_inG 597 (by rfl) (by rfl)
set_option maxRecDepth 100000 in
theorem li_Law_13 : Cond.methodLink RL 13 (mj_y me_Top_instruction) ∈ mj_G := mj_inG 160 (by rfl) (by rfl)
set_option maxRecDepth 100000 in
theorem li_Law_17 : Cond.methodLink RL 17 (mj_y me_Ref_instruction) ∈ mj_G := mj_inG 722 (by rfl) (by rfl)
set_option maxRecDepth 100000 in
theorem li_Law_18 : Cond.methodLink RL 18 (mj_y me_Top_batch) ∈ mj_G := mj_inG 196 (by rfl) (by rfl)
set_option maxRecDepth 100000 in
theorem li_Law_22 : Cond.methodLink RL 22 (mj_y me_Ref_batch) ∈ mj_G := mj_inG 726 (by rfl) (by rfl)
set_option maxRecDepth 100000 in
theorem li_Law_23 : Cond.methodLink RL 23 (mj_y me_Top_truth) ∈ mj_G := mj_inG 223 (by rfl) (by rfl)
set_option maxRecDepth 100000 in
theorem li_Law_27 : Cond.methodLink RL 27 (mj_y me_Ref_truth) ∈ mj_G := mj_inG 730 (by rfl) (by rfl)
set_option maxRecDepth 100000 in
theorem li_Law_28 : Cond.methodLink RL 28 (mj_y me_Top_state) ∈ mj_G := mj_inG 280 (by rfl) (by rfl)
set_option maxRecDepth 100000 in
theorem li_Law_32 : Cond.methodLink RL 32 (mj_y me_Ref_state) ∈ mj_G := mj_inG 777 (by rfl) (by rfl)
set_option maxRecDepth 100000 in
theorem li_Law_33 : Cond.methodLink RL 33 (mj_y me_Top_node) ∈ mj_G := mj_inG 284 (by rfl) (by rfl)
set_option maxRecDepth 100000 in
theorem li_Law_37 : Cond.methodLink RL 37 (mj_y me_Ref_node) ∈ mj_G := mj_inG 781 (by rfl) (by rfl)
set_option maxRecDepth 100000 in
theorem li_Law_40 : Cond.methodLink RL 40 (mj_y me_Top_claim) ∈ mj_G := mj_inG 289 (by rfl) (by rfl)
set_option maxRecDepth 100000 in
theorem li_Law_44 : Cond.methodLink RL 44 (mj_y me_Ref_claim) ∈ mj_G := mj_inG 785 (by rfl) (by rfl)
set_option maxRecDepth 100000 in
theorem li_Law_45 : Cond.methodLink RL 45 (mj_y me_Top_dispute) ∈ mj_G := mj_inG 342 (by rfl) (by rfl)
set_option maxRecDepth 100000 in
theorem li_Law_49 : Cond.methodLink RL 49 (mj_y me_Ref_dispute) ∈ mj_G := mj_inG 792 (by rfl) (by rfl)
set_option maxRecDepth 100000 in
theorem li_Law_50 : Cond.methodLink RL 50 (mj_y me_Top_tell) ∈ mj_G := mj_inG 417 (by rfl) (by rfl)
set_option maxRecDepth 100000 in
theorem li_Law_54 : Cond.methodLink RL 54 (mj_y me_Ref_tell) ∈ mj_G := mj_inG 805 (by rfl) (by rfl)
set_option maxRecDepth 100000 in
theorem li_Law_55 : Cond.methodLink RL 55 (mj_y me_Top_choose) ∈ mj_G := mj_inG 437 (by rfl) (by rfl)
set_option maxRecDepth 100000 in
theorem li_Law_58 : Cond.methodLink RL 58 (mj_y me_Ref_choose) ∈ mj_G := mj_inG 813 (by rfl) (by rfl)
set_option maxRecDepth 100000 in
theorem li_Law_59 : Cond.methodLink RL 59 (mj_y me_Top_paper) ∈ mj_G := mj_inG 446 (by rfl) (by rfl)
set_option maxRecDepth 100000 in
theorem li_Law_62 : Cond.methodLink RL 62 (mj_y me_Ref_paper) ∈ mj_G := mj_inG 817 (by rfl) (by rfl)
set_option maxRecDepth 100000 in
theorem li_Law_63 : Cond.methodLink RL 63 (mj_y me_Top_cell) ∈ mj_G := mj_inG 454 (by rfl) (by rfl)
set_option maxRecDepth 100000 in
theorem li_Law_67 : Cond.methodLink RL 67 (mj_y me_Ref_cell) ∈ mj_G := mj_inG 821 (by rfl) (by rfl)
set_option maxRecDepth 100000 in
theorem li_Law_68 : Cond.methodLink RL 68 (mj_y me_Top_prove) ∈ mj_G := mj_inG 470 (by rfl) (by rfl)
set_option maxRecDepth 100000 in
theorem li_Law_72 : Cond.methodLink RL 72 (mj_y me_Ref_prove) ∈ mj_G := mj_inG 841 (by rfl) (by rfl)
set_option maxRecDepth 100000 in
theorem li_Law_73 : Cond.methodLink RL 73 (mj_y me_Top_judge) ∈ mj_G := mj_inG 519 (by rfl) (by rfl)
set_option maxRecDepth 100000 in
theorem li_Law_77 : Cond.methodLink RL 77 (mj_y me_Ref_judge) ∈ mj_G := mj_inG 829 (by rfl) (by rfl)
set_option maxRecDepth 100000 in
theorem li_Law_78 : Cond.methodLink RL 78 (mj_y me_Top_write) ∈ mj_G := mj_inG 523 (by rfl) (by rfl)
set_option maxRecDepth 100000 in
theorem li_Law_81 : Cond.methodLink RL 81 (mj_y me_Ref_write) ∈ mj_G := mj_inG 854 (by rfl) (by rfl)
set_option maxRecDepth 100000 in
theorem li_Law_82 : Cond.methodLink RL 82 (mj_y me_Top_tick) ∈ mj_G := mj_inG 536 (by rfl) (by rfl)
set_option maxRecDepth 100000 in
theorem li_Law_85 : Cond.methodLink RL 85 (mj_y me_Ref_tick) ∈ mj_G := mj_inG 860 (by rfl) (by rfl)
set_option maxRecDepth 100000 in
theorem li_Law_86 : Cond.methodLink RL 86 (mj_y me_Top_ofClaim) ∈ mj_G := mj_inG 564 (by rfl) (by rfl)
set_option maxRecDepth 100000 in
theorem li_Law_89 : Cond.methodLink RL 89 (mj_y me_Ref_ofClaim) ∈ mj_G := mj_inG 868 (by rfl) (by rfl)
set_option maxRecDepth 100000 in
theorem li_Law_90 : Cond.methodLink RL 90 (mj_y me_Top_ofDispute) ∈ mj_G := mj_inG 569 (by rfl) (by rfl)
set_option maxRecDepth 100000 in
theorem li_Law_93 : Cond.methodLink RL 93 (mj_y me_Ref_ofDispute) ∈ mj_G := mj_inG 872 (by rfl) (by rfl)
set_option maxRecDepth 100000 in
theorem li_Law_94 : Cond.methodLink RL 94 (mj_y me_Top_digest) ∈ mj_G := mj_inG 573 (by rfl) (by rfl)
set_option maxRecDepth 100000 in
theorem li_Law_97 : Cond.methodLink RL 97 (mj_y me_Ref_digest) ∈ mj_G := mj_inG 876 (by rfl) (by rfl)
set_option maxRecDepth 100000 in
theorem li_Law_98 : Cond.methodLink RL 98 (mj_y me_Top_purse) ∈ mj_G := mj_inG 577 (by rfl) (by rfl)
set_option maxRecDepth 100000 in
theorem li_Law_101 : Cond.methodLink RL 101 (mj_y me_Ref_purse) ∈ mj_G := mj_inG 880 (by rfl) (by rfl)
set_option maxRecDepth 100000 in
theorem li_Law_102 : Cond.methodLink RL 102 (mj_y me_Top_sum) ∈ mj_G := mj_inG 582 (by rfl) (by rfl)
set_option maxRecDepth 100000 in
theorem li_Law_106 : Cond.methodLink RL 106 (mj_y me_Ref_sum) ∈ mj_G := mj_inG 884 (by rfl) (by rfl)
set_option maxRecDepth 100000 in
theorem li_Law_107 : Cond.methodLink RL 107 (mj_y me_Top_clear) ∈ mj_G := mj_inG 590 (by rfl) (by rfl)
set_option maxRecDepth 100000 in
theorem li_Law_110 : Cond.methodLink RL 110 (mj_y me_Ref_clear) ∈ mj_G := mj_inG 888 (by rfl) (by rfl)
set_option maxRecDepth 100000 in
theorem mj_oi : Cond.instanceMethod objectInit ∈ mj_G := mj_inG 18 (by rfl) (by rfl)
set_option maxRecDepth 100000 in
theorem mj_oc : Cond.code objectInit ⟨#[0xb1]⟩ 1 none ∈ mj_G := mj_inG 19 (by rfl) (by rfl)
set_option maxRecDepth 100000 in
theorem ao_0 : Cond.arrayOver (.object RX0) ∈ tables_1 := List.mem_of_getElem? (i := 21) (by rfl)
set_option maxRecDepth 100000 in
theorem ao_1 : Cond.arrayOver (.object RX1) ∈ tables_1 := List.mem_of_getElem? (i := 109) (by rfl)
set_option maxRecDepth 100000 in
theorem ao_3 : Cond.arrayOver (.object RX3) ∈ tables_1 := List.mem_of_getElem? (i := 111) (by rfl)
set_option maxRecDepth 100000 in
theorem ao_4 : Cond.arrayOver (.object RX4) ∈ tables_1 := List.mem_of_getElem? (i := 29) (by rfl)
set_option maxRecDepth 100000 in
theorem ao_6 : Cond.arrayOver (.object RX6) ∈ tables_1 := List.mem_of_getElem? (i := 70) (by rfl)
set_option maxRecDepth 100000 in
theorem ac_I : Cond.arrayClass .int ∈ mj_G := mj_inG 61 (by rfl) (by rfl)
set_option maxRecDepth 100000 in
theorem ac_J : Cond.arrayClass .long ∈ mj_G := mj_inG 62 (by rfl) (by rfl)
