/-! CALLS, the script, switches, and the pure instructions in one row -/
theorem mj_goodG {ws : List Cond} (h : ∀ w ∈ ws, w ∈ mj_G) : GoodIn mj_G ws := fun w hw => ⟨h w hw, good_of_word (List.mem_filter.mp (h w hw)).2⟩
theorem mj_blind {E : mj_E} {as : List Value} {h : mj_H} {nx : Nat} : FrameBlind (mj_Pc E as h nx) := fun _ U g mk q => ⟨q.1, mj_S.moved (s := U) (U := U.calling g mk _) (Vm.Alike.refl U.vm) q.2.1, q.2.2.calling⟩
section MJD
variable {M M' : mj_M} {Q : mj_post} {Q' : Option Value → mj_H → Nat → Prop} {pc len n : Nat} {x : Value} {lv lv' : List (Nat × Value)} {st r rest As : List Value} {h g : mj_H} {nx kc ks mc ms : Nat}
theorem mj_after {E : mj_E} {p : Program} {l : Launch} {e : Env} {R : Room} {s : State} {m : MethodId} {args : Array Value} {below : List Frame} {meth : Method} {c : Code} {A : Nat → Prop} {Z : State → Prop} {H : Heap} {locs : List Loc} {ls : Array Slot} {cells slots : Nat} {st0 : List Value} (hC : mj_Z M E p l e R s m args below meth c A Z Q) (hJ : mj_J E R s A h g nx (kc + mc) (ks + ms) H locs cells slots) (hl : lv_has ls (mj_nL M) (mj_lv E lv))
    (hr : va_Run p l e R s m args below meth c H locs cells slots mc ms (F0 m pc ls st0) (rest.map (mj_v E)) (mj_Qc E h nx Q') (mj_Af E h nx)) (k : ∀ r h' nx', Q' r h' nx' → nx ≤ nx' → mj_W M (pc + 3) lv (r.toList ++ rest) h' g nx' kc ks Q) : W p l e R s m args below meth c H locs cells slots Z (F0 m pc ls st0) := by
  intro T hT X
  obtain ⟨v, st₀, t, T', L, h0, X', hL, e1, e2, ⟨⟨r, h', nx', hv, hq, hS', hnx, hdm⟩, hz, hk⟩, stp⟩ := hr T hT X
  cases hv
  rw [h0] at hz hk
  obtain ⟨j1, j2, j3, j4, j5, j6⟩ := hJ
  have hsz : H.size = mj_B E + nx := j1.2.2.2.1
  have hA' : ∀ q, mj_Af E h nx q → A q := fun q hq => by
    rcases hq with ⟨a, h1, rfl⟩ | hq
    · exact j2 a h1
    · exact hC.2.1 q (by have := j4.1; omega)
  have hJ' : mj_J E R s A h' g nx' kc ks T'.heap (locs ++ L) (cells + mc) (slots + ms) := by
    refine ⟨⟨?_, ?_, ?_, ?_, ?_, ?_⟩, ?_, j3, ⟨?_, ?_, ?_⟩, by omega, by omega⟩
    · rw [e1]; exact hS'.1
    · refine j1.2.1.kept hnx (fun a ha => ?_)
      have := j1.2.1.lt ha
      rw [e1]
      refine hk _ (by omega) (fun z => ?_)
      rcases z with ⟨a', h1, h2⟩ | z
      · rw [Nat.add_left_cancel h2] at ha
        exact j1.2.2.1 a' h1 ha
      · omega
    · intro a ha hg
      rcases hdm a ha with z | z
      · exact j1.2.2.1 a z hg
      · have := j1.2.1.lt hg
        omega
    · rw [e1]; exact hS'.2.2.2.1
    · rw [e1]
      exact hS'.2.2.2.2.1.moved (Vm.Alike.symm (by rw [← e2]; exact X'.warmed.alike))
    · exact j1.2.2.2.2.2
    · intro a ha
      rcases hdm a ha with z | z
      · exact j2 a z
      · exact hC.2.1 _ (by have := j4.1; omega)
    · rw [e1]; exact Nat.le_trans j4.1 hz
    · intro q h1 h2
      rw [e1, hk q (Nat.lt_of_lt_of_le h1 j4.1) (fun z => h2 (hA' q z))]
      exact j4.2.1 q h1 h2
    · intro q hq
      rcases List.mem_append.mp hq with z | z
      · exact j4.2.2 q z
      · exact hA' _ (hL q z)
  obtain ⟨t2, a1, b1⟩ := k r h' nx' hq hnx E p l e R s m args below meth c A Z hC T'.heap (locs ++ L) ls (cells + mc) (slots + ms) hJ' hl T' rfl X'
  refine ⟨t2, stp t2 ?_, b1⟩
  cases r with
  | none => exact a1
  | some w => exact a1
theorem mj_catsum (E : mj_E) (l : List Value) : ((l.map (mj_v E)).map fun v => v.category).sum = (l.map Value.category).sum := by
  rw [List.map_map]
  exact congrArg List.sum (List.map_congr_left (fun v _ => mj_v_cat E v))
theorem mj_pre {E : mj_E} {s : State} {H : Heap} {R : Room} {A : Nat → Prop} {locs : List Loc} {cells slots : Nat} {as : List Value} (hk : mj_k E s) (hJ : mj_J E R s A h g nx kc ks H locs cells slots) : ∀ U : State, U.heap = H → s.WarmedH U.vm → mj_Pc E as h nx (as.map (mj_v E)).toArray U := fun U hU hW => by
  refine ⟨rfl, ?_, hk.warm hW⟩
  rw [hU]
  have j1 := hJ.1
  exact ⟨j1.1, mj_R_0 E nx H, fun a _ hb => mj_d_0 hb, j1.2.2.2.1, j1.2.2.2.2.1.moved hW.alike, j1.2.2.2.2.2⟩

theorem mj_r_callV {idx ci a N : Nat} {fs : List Value} (hd : mj_find (mj_tab M) pc = some (.invokevirtual idx, 3, x, n)) (hli : Cond.methodLink (mj_own M) idx (mj_y M') ∈ mj_G) (hck : mj_ck M' N) (hiv : mj_iv M') (hrm : mj_fr M' + 1 ≤ mj_fr M ∧ 8 + (mj_nL M' + 11) + mj_lo M' ≤ mj_lo M) (ho : h.1 ci a = some fs) (hcn : mj_cn ci = (mj_y M').cls) (K : mj_K M' (.ref a :: As) h nx mc ms Q') (hst : st = As.reverse ++ .ref a :: rest) (hN : As.length = N) (hrs : (rest.map Value.category).sum ≤ 8) (k : ∀ r h' nx', Q' r h' nx' → nx ≤ nx' → mj_W M n lv (r.toList ++ rest) h' g nx' kc ks Q) : mj_W M pc lv st h g nx (kc + mc) (ks + ms) Q := by
  intro E p l e R s m args below meth c A Z hC H locs ls cells slots hJ hl
  obtain ⟨hdg, hn, hxb⟩ := hC.dec hd
  subst hn
  subst hst
  have f1 := hC.1.2.2.2.2.2.2.2.2.2.2.1
  have f2 := hC.1.2.2.2.2.2.2.2.2.2.2.2
  have hS : CallFix p m c (mj_cc M) (mj_nL M) s args mj_G (mj_own M) := ⟨hC.x, hC.b, hC.1.2.2.2.1, hC.own, hC.ts⟩
  have hW : 2 * (F0 m pc ls ((As.reverse ++ .ref a :: rest).map (mj_v E) : List Value)).monitorRoom + ((rest.map (mj_v E)).map fun v => v.category).sum ≤ 8 := by
    rw [mj_catsum]
    show 2 * 0 + _ ≤ 8
    omega
  have hin : ∀ w ∈ mj_ws M', w ∈ mj_G := fun w hw => by
    rcases List.mem_cons.mp hw with z | z
    · rw [z]; exact hck.1
    · exact z
  have hJb := hJ.2.2.2.2
  obtain ⟨kd, h1, -⟩ := hJ.1.1
  obtain ⟨-, -, ⟨q, hq, -⟩, hat⟩ := h1 ci a fs ho
  have hqc : q.1 = (mj_y M').cls := by rw [← hcn]; unfold mj_cn; rw [hq]
  have hrecv := va_recv hC.k.1 (mj_one hat) hq (q0 := 0) rfl
  rw [hqc] at hrecv
  refine mj_after hC hJ hl ?_ k
  refine va_runV (C := (mj_y M').cls) (As := As.map (mj_v E)) (Qc := fun _ => mj_Qc E h nx Q') hS (K l E) (cwV N hC.ts (mj_goodG ?_) rfl rfl rfl ⟨rfl, hck.2.2.1⟩ ⟨by show mj_fr M' + 1 ≤ _; omega, by show 8 + (mj_nL M' + 11) + mj_lo M' ≤ _; omega⟩) ⟨mj_blind, hrecv, mj_pre hC.k hJ⟩ rfl (by rw [List.length_map]; exact hN) hl.1 (by simp [mj_v]) hW hdg ⟨by omega, by omega⟩
  intro w hw
  unfold wsV at hw
  rcases List.mem_append.mp hw with z | z
  · simp only [List.mem_cons, List.not_mem_nil, or_false] at z
    rcases z with z | z | z | z
    · rw [z]; exact hli
    · rw [z]; exact hiv.1
    · rw [z]; exact hiv.2
    · rw [z]; exact hck.2.1
  · exact hin w z
theorem mj_r_callS {idx N : Nat} (hd : mj_find (mj_tab M) pc = some (.invokestatic idx, 3, x, n)) (hli : Cond.methodLink (mj_own M) idx (mj_y M') ∈ mj_G) (hck : mj_ck M' N) (hiv : Cond.static (mj_y M') ∈ mj_G) (hrm : mj_fr M' + 1 ≤ mj_fr M ∧ 8 + (mj_nL M' + 11) + mj_lo M' ≤ mj_lo M) (hcn : (mj_y M').cls = mj_own M) (K : mj_K M' As h nx mc ms Q') (hst : st = As.reverse ++ rest) (hN : As.length = N) (hrs : (rest.map Value.category).sum ≤ 8) (k : ∀ r h' nx', Q' r h' nx' → nx ≤ nx' → mj_W M n lv (r.toList ++ rest) h' g nx' kc ks Q) : mj_W M pc lv st h g nx (kc + mc) (ks + ms) Q := by
  intro E p l e R s m args below meth c A Z hC H locs ls cells slots hJ hl
  obtain ⟨hdg, hn, hxb⟩ := hC.dec hd
  subst hn
  subst hst
  have f1 := hC.1.2.2.2.2.2.2.2.2.2.2.1
  have f2 := hC.1.2.2.2.2.2.2.2.2.2.2.2
  have hS : CallFix p m c (mj_cc M) (mj_nL M) s args mj_G (mj_own M) := ⟨hC.x, hC.b, hC.1.2.2.2.1, hC.own, hC.ts⟩
  have hW : 2 * (F0 m pc ls ((As.reverse ++ rest).map (mj_v E) : List Value)).monitorRoom + ((rest.map (mj_v E)).map fun v => v.category).sum ≤ 8 := by
    rw [mj_catsum]
    show 2 * 0 + _ ≤ 8
    omega
  have hin : ∀ w ∈ mj_ws M', w ∈ mj_G := fun w hw => by
    rcases List.mem_cons.mp hw with z | z
    · rw [z]; exact hck.1
    · exact z
  have hJb := hJ.2.2.2.2
  refine mj_after hC hJ hl ?_ k
  refine va_runS (As := As.map (mj_v E)) (Qc := fun _ => mj_Qc E h nx Q') hS (K l E) (cwS N hC.ts (mj_goodG ?_) rfl rfl rfl ⟨hcn, hck.2.2.1⟩ ⟨by show mj_fr M' + 1 ≤ _; omega, by show 8 + (mj_nL M' + 11) + mj_lo M' ≤ _; omega⟩) ⟨mj_blind, mj_pre hC.k hJ⟩ rfl (by rw [List.length_map]; exact hN) hl.1 (by simp) hW hdg ⟨by omega, by omega⟩
  intro w hw
  unfold wsS at hw
  rcases List.mem_append.mp hw with z | z
  · simp only [List.mem_cons, List.not_mem_nil, or_false] at z
    rcases z with z | z | z
    · rw [z]; exact hli
    · rw [z]; exact hiv
    · rw [z, ← hcn]; exact hck.2.1
  · exact hin w z
theorem mj_r_callSN {idx N : Nat} (hd : mj_find (mj_tab M) pc = some (.invokestatic idx, 3, x, n)) (hli : Cond.methodLinkNest (mj_own M) idx (mj_y M') "DisputeHalving" ∈ mj_N) (hck : mj_ck M' N) (hiv : Cond.static (mj_y M') ∈ mj_G) (hrm : mj_fr M' + 1 ≤ mj_fr M ∧ 8 + (mj_nL M' + 11) + mj_lo M' ≤ mj_lo M) (K : mj_K M' As h nx mc ms Q') (hst : st = As.reverse ++ rest) (hN : As.length = N) (hrs : (rest.map Value.category).sum ≤ 8) (k : ∀ r h' nx', Q' r h' nx' → nx ≤ nx' → mj_W M n lv (r.toList ++ rest) h' g nx' kc ks Q) : mj_W M pc lv st h g nx (kc + mc) (ks + ms) Q := by
  intro E p l e R s m args below meth c A Z hC H locs ls cells slots hJ hl
  obtain ⟨hdg, hn, hxb⟩ := hC.dec hd
  subst hn
  subst hst
  have f1 := hC.1.2.2.2.2.2.2.2.2.2.2.1
  have f2 := hC.1.2.2.2.2.2.2.2.2.2.2.2
  have hS : CallFix p m c (mj_cc M) (mj_nL M) s args mj_G (mj_own M) := ⟨hC.x, hC.b, hC.1.2.2.2.1, hC.own, hC.ts⟩
  have hW : 2 * (F0 m pc ls ((As.reverse ++ rest).map (mj_v E) : List Value)).monitorRoom + ((rest.map (mj_v E)).map fun v => v.category).sum ≤ 8 := by
    rw [mj_catsum]
    show 2 * 0 + _ ≤ 8
    omega
  have hin : ∀ w ∈ mj_ws M', w ∈ mj_G := fun w hw => by
    rcases List.mem_cons.mp hw with z | z
    · rw [z]; exact hck.1
    · exact z
  have hJb := hJ.2.2.2.2
  refine mj_after hC hJ hl ?_ k
  exact va_runSN (As := As.map (mj_v E)) (Qc := fun _ => mj_Qc E h nx Q') hS (K l E) ⟨va_cnB N hC.ts (mj_goodG hin) rfl rfl rfl (hC.k.2.1 _ hli) (hC.ts _ hck.2.1) hck.2.2.1 ⟨by show mj_fr M' + 1 ≤ _; omega, by show 8 + (mj_nL M' + 11) + mj_lo M' ≤ _; omega⟩, hC.ts _ hiv, trivial⟩ ⟨mj_blind, mj_pre hC.k hJ⟩ rfl (by rw [List.length_map]; exact hN) hl.1 (by simp) hW hdg ⟨by omega, by omega⟩
theorem mj_r_callI {idx a N : Nat} (hd : mj_find (mj_tab M) pc = some (.invokespecial idx, 3, x, n)) (hli : Cond.methodLink (mj_own M) idx (mj_y M') ∈ mj_G) (hck : mj_ck M' N) (hiv : Cond.instanceMethod (mj_y M') ∈ mj_G) (hnm : (mj_y M').name = "<init>") (hrt : mj_ret M' = none) (hrm : mj_fr M' + 1 ≤ mj_fr M ∧ 8 + (mj_nL M' + 11) + mj_lo M' ≤ mj_lo M) (K : mj_K M' (.ref a :: As) h nx mc ms Q') (hst : st = As.reverse ++ .ref a :: rest) (hN : As.length = N) (hrs : (rest.map Value.category).sum ≤ 8) (k : ∀ r h' nx', Q' r h' nx' → nx ≤ nx' → mj_W M n lv (r.toList ++ rest) h' g nx' kc ks Q) : mj_W M pc lv st h g nx (kc + mc) (ks + ms) Q := by
  intro E p l e R s m args below meth c A Z hC H locs ls cells slots hJ hl
  obtain ⟨hdg, hn, hxb⟩ := hC.dec hd
  subst hn
  subst hst
  have f1 := hC.1.2.2.2.2.2.2.2.2.2.2.1
  have f2 := hC.1.2.2.2.2.2.2.2.2.2.2.2
  have hS : CallFix p m c (mj_cc M) (mj_nL M) s args mj_G (mj_own M) := ⟨hC.x, hC.b, hC.1.2.2.2.1, hC.own, hC.ts⟩
  have hW : 2 * (F0 m pc ls ((As.reverse ++ .ref a :: rest).map (mj_v E) : List Value)).monitorRoom + ((rest.map (mj_v E)).map fun v => v.category).sum ≤ 8 := by
    rw [mj_catsum]
    show 2 * 0 + _ ≤ 8
    omega
  have hin : ∀ w ∈ mj_ws M', w ∈ mj_G := fun w hw => by
    rcases List.mem_cons.mp hw with z | z
    · rw [z]; exact hck.1
    · exact z
  have hJb := hJ.2.2.2.2
  refine mj_after hC hJ hl ?_ k
  have hcw : CallB R s args (mj_own M) idx (mj_y M') (mj_cc M') (mj_nL M') none (mj_ws M') (mj_rm M' mc ms) mc ms N := by
    have h0 := callB_of (R := R) (own := mj_own M) (index := idx) (rm := mj_rm M' mc ms) N hC.ts (mj_goodG hin) rfl rfl rfl (hC.ts _ hck.2.1) (hC.ts _ hli) hck.2.2.1 ⟨by show mj_fr M' + 1 ≤ _; omega, by show 8 + (mj_nL M' + 11) + mj_lo M' ≤ _; omega⟩
    rw [hrt] at h0
    rw [← hrt]
    rw [hrt]
    exact h0
  exact va_runI (As := As.map (mj_v E)) (Qc := fun _ => mj_Qc E h nx Q') hS (K l E) ⟨hcw, hnm, hC.ts _ hiv⟩ ⟨mj_blind, mj_pre hC.k hJ⟩ rfl (by rw [List.length_map]; exact hN) hl.1 (by simp [mj_v]) hW hdg ⟨by omega, by omega⟩
theorem mj_r_callIN {idx a N : Nat} (hd : mj_find (mj_tab M) pc = some (.invokespecial idx, 3, x, n)) (hli : Cond.methodLinkNest (mj_own M) idx (mj_y M') "DisputeHalving" ∈ mj_N) (hck : mj_ck M' N) (hiv : Cond.instanceMethod (mj_y M') ∈ mj_G) (hnm : (mj_y M').name = "<init>") (hrt : mj_ret M' = none) (hrm : mj_fr M' + 1 ≤ mj_fr M ∧ 8 + (mj_nL M' + 11) + mj_lo M' ≤ mj_lo M) (K : mj_K M' (.ref a :: As) h nx mc ms Q') (hst : st = As.reverse ++ .ref a :: rest) (hN : As.length = N) (hrs : (rest.map Value.category).sum ≤ 8) (k : ∀ r h' nx', Q' r h' nx' → nx ≤ nx' → mj_W M n lv (r.toList ++ rest) h' g nx' kc ks Q) : mj_W M pc lv st h g nx (kc + mc) (ks + ms) Q := by
  intro E p l e R s m args below meth c A Z hC H locs ls cells slots hJ hl
  obtain ⟨hdg, hn, hxb⟩ := hC.dec hd
  subst hn
  subst hst
  have f1 := hC.1.2.2.2.2.2.2.2.2.2.2.1
  have f2 := hC.1.2.2.2.2.2.2.2.2.2.2.2
  have hS : CallFix p m c (mj_cc M) (mj_nL M) s args mj_G (mj_own M) := ⟨hC.x, hC.b, hC.1.2.2.2.1, hC.own, hC.ts⟩
  have hW : 2 * (F0 m pc ls ((As.reverse ++ .ref a :: rest).map (mj_v E) : List Value)).monitorRoom + ((rest.map (mj_v E)).map fun v => v.category).sum ≤ 8 := by
    rw [mj_catsum]
    show 2 * 0 + _ ≤ 8
    omega
  have hin : ∀ w ∈ mj_ws M', w ∈ mj_G := fun w hw => by
    rcases List.mem_cons.mp hw with z | z
    · rw [z]; exact hck.1
    · exact z
  have hJb := hJ.2.2.2.2
  refine mj_after hC hJ hl ?_ k
  have hcw : va_CN R s args (mj_own M) idx (mj_y M') "DisputeHalving" (mj_cc M') (mj_nL M') none (mj_ws M') (mj_rm M' mc ms) mc ms N := by
    have h0 := va_cnB (R := R) (own := mj_own M) (index := idx) (host := "DisputeHalving") (rm := mj_rm M' mc ms) (ret := mj_ret M') N hC.ts (mj_goodG hin) rfl rfl rfl (hC.k.2.1 _ hli) (hC.ts _ hck.2.1) hck.2.2.1 ⟨by show mj_fr M' + 1 ≤ _; omega, by show 8 + (mj_nL M' + 11) + mj_lo M' ≤ _; omega⟩
    rw [hrt] at h0
    rw [← hrt]
    rw [hrt]
    exact h0
  exact va_runIN (As := As.map (mj_v E)) (Qc := fun _ => mj_Qc E h nx Q') hS (K l E) ⟨hcw, hnm, hC.ts _ hiv⟩ ⟨mj_blind, mj_pre hC.k hJ⟩ rfl (by rw [List.length_map]; exact hN) hl.1 (by simp [mj_v]) hW hdg ⟨by omega, by omega⟩
/-- where a switch goes -/
def mj_sw (pc : Nat) (dflt lo hi : Int) (offs : List Int) (v : Int32) (t : Nat) : Prop := ((v.toInt < lo ∨ hi < v.toInt) ∧ (pc : Int) + dflt = t) ∨ (¬ v.toInt < lo ∧ ¬ hi < v.toInt ∧ ∃ o, offs[(v.toInt - lo).toNat]? = some o ∧ (pc : Int) + o = t)
theorem mj_r_switch {dflt lo hi : Int} {offs : List Int} {v : Int32} {t : Nat} (hd : mj_find (mj_tab M) pc = some (.tableswitch dflt lo hi offs.toArray, len, x, n)) (hs : mj_sw pc dflt lo hi offs v t) (k : mj_W M t lv r h g nx kc ks Q) : mj_W M pc lv (.int v :: r) h g nx kc ks Q := by
  intro E p l e R s m args below meth c A Z hC H locs ls cells slots hJ hl
  obtain ⟨hdg, hn, hxb⟩ := hC.dec hd
  have kk := k E p l e R s m args below meth c A Z hC H locs ls cells slots hJ hl
  rcases hs with ⟨h1, h2⟩ | ⟨h1, h2, o, h3, h4⟩
  · exact lv_tableOut hC.x hC.b hdg h1 h2 kk
  · exact lv_tableIn hC.x hC.b hdg h1 h2 (by rw [List.getElem?_toArray]; exact h3) h4 kk
end MJD
section MJS
variable {M : mj_M} {Q : Option Value → mj_H → mj_H → Nat → Prop} {pc len n : Nat} {x : Value} {lv lv' : List (Nat × Value)} {st r : List Value} {h g : mj_H} {nx kc ks : Nat} {L : Nat} {xs : Nat → Int32}
/-- the law's script -/
def mj_scr (L : Nat) (xs : Nat → Int32) (E : mj_E) : Prop := mj_len E = L ∧ mj_xs E = xs
theorem mj_r_sald {i : Int32} {j y : Nat} (hd : mj_find (mj_tab M) pc = some (.iaload, 1, x, n)) (hi : vp_in i L) (hj : i.toNatClampNeg = j) (kk : mj_W M n lv (.int (xs j) :: r) h g nx kc ks (mj_scr L xs, Q)) : mj_W M pc lv (.int i :: .retAddr y :: r) h g nx kc ks (mj_scr L xs, Q) := by
  intro E p l e R s m args below meth c A Z hC H locs ls cells slots hJ hl
  obtain ⟨hdg, hn, hxb⟩ := hC.dec hd
  subst hn
  subst hj
  obtain ⟨hL, hxs⟩ := hC.2.2.2
  obtain ⟨scr, s1, s2, s3, s4, s5⟩ := hJ.1.2.2.2.2.1
  rw [hL] at s4 s5
  rw [hxs] at s5
  have hlt : i.toNatClampNeg < L := Nat.not_le.mp fun q => hi (Or.inr q)
  exact W.iald hC.x hC.b s1 s2 s3 (by rw [s4]; exact hi) (s5 _ hlt) rfl rfl hdg (kk E p l e R s m args below meth c A Z hC H locs ls cells slots hJ hl)
theorem mj_r_salen {y : Nat} {v : Int32} (hd : mj_find (mj_tab M) pc = some (.arraylength, 1, x, n)) (hv : Nat.toInt32 L = v) (kk : mj_W M n lv (.int v :: r) h g nx kc ks (mj_scr L xs, Q)) : mj_W M pc lv (.retAddr y :: r) h g nx kc ks (mj_scr L xs, Q) := by
  intro E p l e R s m args below meth c A Z hC H locs ls cells slots hJ hl
  obtain ⟨hdg, hn, hxb⟩ := hC.dec hd
  subst hn
  obtain ⟨hL, hxs⟩ := hC.2.2.2
  obtain ⟨scr, s1, s2, s3, s4, s5⟩ := hJ.1.2.2.2.2.1
  rw [hL] at s4
  exact W.alen hC.x hC.b s1 s2 (by rw [s4]; exact hv) rfl rfl hdg (kk E p l e R s m args below meth c A Z hC H locs ls cells slots hJ hl)
end MJS
/-- what a pure instruction does to the locals and the stack -/
def mj_pure (nL : Nat) (i : Instr) (len : Nat) (x : Value) (n : Nat) (lv : List (Nat × Value)) (st : List Value) : Option (Nat × List (Nat × Value) × List Value) :=
  match i, len with
  | .iconst _, 1 => some (n, lv, x :: st)
  | .bipush _, 2 => some (n, lv, x :: st)
  | .sipush _, 3 => some (n, lv, x :: st)
  | .lconst _, 1 => some (n, lv, x :: st)
  | .ldc2_w _, 3 => some (n, lv, x :: st)
  | .aconst_null, 1 => some (n, lv, .null :: st)
  | .iload_n v, 1 => match mj_get lv v with | some (.int y) => some (n, lv, .int y :: st) | _ => none
  | .iload v, 2 => match mj_get lv v with | some (.int y) => some (n, lv, .int y :: st) | _ => none
  | .lload_n v, 1 => match mj_get lv v with | some (.long y) => some (n, lv, .long y :: st) | _ => none
  | .lload v, 2 => match mj_get lv v with | some (.long y) => some (n, lv, .long y :: st) | _ => none
  | .aload_n v, 1 => match mj_get lv v with | some (.ref y) => some (n, lv, .ref y :: st) | some (.retAddr y) => some (n, lv, .retAddr y :: st) | some .null => some (n, lv, .null :: st) | _ => none
  | .aload v, 2 => match mj_get lv v with | some (.ref y) => some (n, lv, .ref y :: st) | some (.retAddr y) => some (n, lv, .retAddr y :: st) | some .null => some (n, lv, .null :: st) | _ => none
  | .istore_n v, 1 => match st with | .int y :: r => (match Nat.blt (v.val) nL, mj_put v (.int y) false lv with | true, some l => some (n, l, r) | _, _ => none) | _ => none
  | .istore v, 2 => match st with | .int y :: r => (match Nat.blt (v) nL, mj_put v (.int y) false lv with | true, some l => some (n, l, r) | _, _ => none) | _ => none
  | .lstore_n v, 1 => match st with | .long y :: r => (match Nat.blt (v.val + 1) nL, mj_put v (.long y) true lv with | true, some l => some (n, l, r) | _, _ => none) | _ => none
  | .lstore v, 2 => match st with | .long y :: r => (match Nat.blt (v + 1) nL, mj_put v (.long y) true lv with | true, some l => some (n, l, r) | _, _ => none) | _ => none
  | .astore_n v, 1 => match st with | .ref y :: r => (match Nat.blt (v.val) nL, mj_put v (.ref y) false lv with | true, some l => some (n, l, r) | _, _ => none) | .null :: r => (match Nat.blt (v.val) nL, mj_put v .null false lv with | true, some l => some (n, l, r) | _, _ => none) | _ => none
  | .astore v, 2 => match st with | .ref y :: r => (match Nat.blt (v) nL, mj_put v (.ref y) false lv with | true, some l => some (n, l, r) | _, _ => none) | .null :: r => (match Nat.blt (v) nL, mj_put v .null false lv with | true, some l => some (n, l, r) | _, _ => none) | _ => none
  | .iinc v _, 3 => match x, mj_get lv v with | .int z, some (.int y) => (match Nat.blt v nL, mj_put v (.int (y + z)) false lv with | true, some l => some (n, l, st) | _, _ => none) | _, _ => none
  | .iadd, 1 => match st with | .int b :: .int a :: r => some (n, lv, .int (a + b) :: r) | _ => none
  | .isub, 1 => match st with | .int b :: .int a :: r => some (n, lv, .int (a - b) :: r) | _ => none
  | .imul, 1 => match st with | .int b :: .int a :: r => some (n, lv, .int (a * b) :: r) | _ => none
  | .iand, 1 => match st with | .int b :: .int a :: r => some (n, lv, .int (a &&& b) :: r) | _ => none
  | .ior, 1 => match st with | .int b :: .int a :: r => some (n, lv, .int (a ||| b) :: r) | _ => none
  | .ixor, 1 => match st with | .int b :: .int a :: r => some (n, lv, .int (a ^^^ b) :: r) | _ => none
  | .ladd, 1 => match st with | .long b :: .long a :: r => some (n, lv, .long (a + b) :: r) | _ => none
  | .lsub, 1 => match st with | .long b :: .long a :: r => some (n, lv, .long (a - b) :: r) | _ => none
  | .lmul, 1 => match st with | .long b :: .long a :: r => some (n, lv, .long (a * b) :: r) | _ => none
  | .land, 1 => match st with | .long b :: .long a :: r => some (n, lv, .long (a &&& b) :: r) | _ => none
  | .lor, 1 => match st with | .long b :: .long a :: r => some (n, lv, .long (a ||| b) :: r) | _ => none
  | .lxor, 1 => match st with | .long b :: .long a :: r => some (n, lv, .long (a ^^^ b) :: r) | _ => none
  | .ishl, 1 => match st with | .int b :: .int a :: r => some (n, lv, .int (a <<< (b &&& 31)) :: r) | _ => none
  | .ishr, 1 => match st with | .int b :: .int a :: r => some (n, lv, .int (a >>> (b &&& 31)) :: r) | _ => none
  | .idiv, 1 => match st with | .int b :: .int a :: r => (match decide (b = 0) with | false => some (n, lv, .int (a / b) :: r) | true => none) | _ => none
  | .irem, 1 => match st with | .int b :: .int a :: r => (match decide (b = 0) with | false => some (n, lv, .int (a - a / b * b) :: r) | true => none) | _ => none
  | .ineg, 1 => match st with | .int a :: r => some (n, lv, .int (-a) :: r) | _ => none
  | .iushr, 1 => match st with | .int b :: .int a :: r => some (n, lv, .int (a.toUInt32 >>> (b.toUInt32 &&& Int32.toUInt32 31)).toInt32 :: r) | _ => none
  | .lushr, 1 => match st with | .int b :: .long a :: r => some (n, lv, .long (a.toUInt64 >>> (b.toInt64.toUInt64 &&& Int64.toUInt64 63)).toInt64 :: r) | _ => none
  | .lshl, 1 => match st with | .int b :: .long a :: r => some (n, lv, .long (a <<< (b.toInt64 &&& 63)) :: r) | _ => none
  | .i2l, 1 => match st with | .int a :: r => some (n, lv, .long a.toInt64 :: r) | _ => none
  | .l2i, 1 => match st with | .long a :: r => some (n, lv, .int a.toInt32 :: r) | _ => none
  | .lcmp, 1 => match st with | .long b :: .long a :: r => some (n, lv, .int (lg_cmp a b) :: r) | _ => none
  | .dup, 1 => match st with | .int a :: r => some (n, lv, .int a :: .int a :: r) | .ref a :: r => some (n, lv, .ref a :: .ref a :: r) | _ => none
  | .pop, 1 => match st with | .int a :: r => some (n, lv, r) | .ref a :: r => some (n, lv, r) | _ => none
  | .dup2, 1 => match st with | .int a :: .ref b :: r => some (n, lv, .int a :: .ref b :: .int a :: .ref b :: r) | _ => none
  | .goto _, 3 => match x with | .retAddr t => some (t, lv, st) | _ => none
  | .ifnull _, 3 => match x, st with | _, .ref a :: r => some (n, lv, r) | .retAddr t, .null :: r => some (t, lv, r) | _, _ => none
  | .ifnonnull _, 3 => match x, st with | .retAddr t, .ref a :: r => some (t, lv, r) | _, .null :: r => some (n, lv, r) | _, _ => none
  | _, _ => none
theorem mj_r_pure {M : mj_M} {Q : mj_post} {pc len n pc' : Nat} {i : Instr} {x : Value} {lv lv' : List (Nat × Value)} {st st' : List Value} {h g : mj_H} {nx kc ks : Nat} (hd : mj_find (mj_tab M) pc = some (i, len, x, n)) (hp : mj_pure (mj_nL M) i len x n lv st = some (pc', lv', st')) (k : mj_W M pc' lv' st' h g nx kc ks Q) : mj_W M pc lv st h g nx kc ks Q := by
  unfold mj_pure at hp
  split at hp
  · cases hp
    exact mj_r_iconst hd k
  · cases hp
    exact mj_r_bipush hd k
  · cases hp
    exact mj_r_sipush hd k
  · cases hp
    exact mj_r_lconst hd k
  · cases hp
    exact mj_r_ldc2 hd k
  · cases hp
    exact mj_r_null hd k
  · split at hp
    · next y hy => cases hp; exact mj_r_iload_n hd hy k
    · cases hp
  · split at hp
    · next y hy => cases hp; exact mj_r_iload hd hy k
    · cases hp
  · split at hp
    · next y hy => cases hp; exact mj_r_lload_n hd hy k
    · cases hp
  · split at hp
    · next y hy => cases hp; exact mj_r_lload hd hy k
    · cases hp
  · split at hp
    · next y hy => cases hp; exact mj_r_aload_n_ref hd hy k
    · next y hy => cases hp; exact mj_r_aload_n_rad hd hy k
    · next hy => cases hp; exact mj_r_aload_n_nul hd hy k
    · cases hp
  · split at hp
    · next y hy => cases hp; exact mj_r_aload_ref hd hy k
    · next y hy => cases hp; exact mj_r_aload_rad hd hy k
    · next hy => cases hp; exact mj_r_aload_nul hd hy k
    · cases hp
  · split at hp
    · split at hp
      · next _ hb hq => cases hp; exact mj_r_istore_n hd (Nat.blt_eq.mp hb) hq k
      · cases hp
    · cases hp
  · split at hp
    · split at hp
      · next _ hb hq => cases hp; exact mj_r_istore hd (Nat.blt_eq.mp hb) hq k
      · cases hp
    · cases hp
  · split at hp
    · split at hp
      · next _ hb hq => cases hp; exact mj_r_lstore_n hd (Nat.blt_eq.mp hb) hq k
      · cases hp
    · cases hp
  · split at hp
    · split at hp
      · next _ hb hq => cases hp; exact mj_r_lstore hd (Nat.blt_eq.mp hb) hq k
      · cases hp
    · cases hp
  · split at hp
    · split at hp
      · next _ hb hq => cases hp; exact mj_r_astore_n hd (Nat.blt_eq.mp hb) hq k
      · cases hp
    · split at hp
      · next _ hb hq => cases hp; exact mj_r_aNstore_n hd (Nat.blt_eq.mp hb) hq k
      · cases hp
    · cases hp
  · split at hp
    · split at hp
      · next _ hb hq => cases hp; exact mj_r_astore hd (Nat.blt_eq.mp hb) hq k
      · cases hp
    · split at hp
      · next _ hb hq => cases hp; exact mj_r_aNstore hd (Nat.blt_eq.mp hb) hq k
      · cases hp
    · cases hp
  · split at hp
    · rename_i z y hg
      split at hp
      · next _ hb hq => cases hp; exact mj_r_iinc hd rfl hg (Nat.blt_eq.mp hb) hq k
      · cases hp
    · cases hp
  · split at hp
    · cases hp; exact mj_r_iadd hd k
    · cases hp
  · split at hp
    · cases hp; exact mj_r_isub hd k
    · cases hp
  · split at hp
    · cases hp; exact mj_r_imul hd k
    · cases hp
  · split at hp
    · cases hp; exact mj_r_iand hd k
    · cases hp
  · split at hp
    · cases hp; exact mj_r_ior hd k
    · cases hp
  · split at hp
    · cases hp; exact mj_r_ixor hd k
    · cases hp
  · split at hp
    · cases hp; exact mj_r_ladd hd k
    · cases hp
  · split at hp
    · cases hp; exact mj_r_lsub hd k
    · cases hp
  · split at hp
    · cases hp; exact mj_r_lmul hd k
    · cases hp
  · split at hp
    · cases hp; exact mj_r_land hd k
    · cases hp
  · split at hp
    · cases hp; exact mj_r_lor hd k
    · cases hp
  · split at hp
    · cases hp; exact mj_r_lxor hd k
    · cases hp
  · split at hp
    · cases hp; exact mj_r_ishl hd k
    · cases hp
  · split at hp
    · cases hp; exact mj_r_ishr hd k
    · cases hp
  · split at hp
    · split at hp
      · next hb => cases hp; exact mj_r_idiv hd (of_decide_eq_false hb) k
      · cases hp
    · cases hp
  · split at hp
    · split at hp
      · next hb => cases hp; exact mj_r_irem hd (of_decide_eq_false hb) k
      · cases hp
    · cases hp
  · split at hp
    · cases hp; exact mj_r_ineg hd k
    · cases hp
  · split at hp
    · cases hp; exact mj_r_iushr hd k
    · cases hp
  · split at hp
    · cases hp; exact mj_r_lushr hd k
    · cases hp
  · split at hp
    · cases hp; exact mj_r_lshl hd k
    · cases hp
  · split at hp
    · cases hp; exact mj_r_i2l hd k
    · cases hp
  · split at hp
    · cases hp; exact mj_r_l2i hd k
    · cases hp
  · split at hp
    · cases hp; exact mj_r_lcmp hd k
    · cases hp
  · split at hp
    · cases hp; exact mj_r_dup hd rfl k
    · cases hp; exact mj_r_dup hd rfl k
    · cases hp
  · split at hp
    · cases hp; exact mj_r_pop hd rfl k
    · cases hp; exact mj_r_pop hd rfl k
    · cases hp
  · split at hp
    · cases hp; exact mj_r_dup2 hd rfl rfl k
    · cases hp
  · split at hp
    · cases hp; exact mj_r_goto hd rfl k
    · cases hp
  · split at hp
    · cases hp; exact mj_r_ifnull_r hd k
    · cases hp; exact mj_r_ifnull_n hd rfl k
    · cases hp
  · split at hp
    · cases hp; exact mj_r_ifnonnull_r hd rfl k
    · cases hp; exact mj_r_ifnonnull_n hd k
    · cases hp
  · cases hp
