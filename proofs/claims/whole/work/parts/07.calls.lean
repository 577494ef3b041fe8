/-! ROWS THAT MAKE CELLS, RETURN, CALL; CONTRACTS -/
def mj_dflt : Nat → Value
  | 0 => .int 0
  | 1 => .long 0
  | 2 => .int 0
  | _ => .null
def mj_dv : List (Nat × Bool) → Option (List Value)
  | [] => some []
  | (0, _) :: t => match mj_dv t with | some l => some (.int 0 :: l) | none => none
  | (1, _) :: t => match mj_dv t with | some l => some (.long 0 :: l) | none => none
  | (2, _) :: t => match mj_dv t with | some l => some (.int 0 :: l) | none => none
  | (_ + 3, _) :: t => match mj_dv t with | some l => some (.null :: l) | none => none
theorem mj_dv_ok : ∀ {l : List (Nat × Bool)} {fs : List Value}, mj_dv l = some fs → fs = l.map (fun q => mj_dflt q.1) := by
  intro l
  induction l with
  | nil => intro fs h; cases h; rfl
  | cons q t ih =>
    intro fs h
    obtain ⟨k, b⟩ := q
    match k, h with
    | 0, h =>
      simp only [mj_dv] at h
      split at h
      · next l' hl => cases h; rw [ih hl]; rfl
      · cases h
    | 1, h =>
      simp only [mj_dv] at h
      split at h
      · next l' hl => cases h; rw [ih hl]; rfl
      · cases h
    | 2, h =>
      simp only [mj_dv] at h
      split at h
      · next l' hl => cases h; rw [ih hl]; rfl
      · cases h
    | k + 3, h =>
      simp only [mj_dv] at h
      split at h
      · next l' hl => cases h; rw [ih hl]; rfl
      · cases h
def mj_dl (ci : Nat) : Option (List Value) := match mj_kt[ci]? with
  | some l => mj_dv l
  | none => none
theorem mj_v_dflt (E : mj_E) (k : Nat) : mj_v E (mj_dflt k) = mj_dflt k := by
  match k with
  | 0 => rfl
  | 1 => rfl
  | 2 => rfl
  | k + 3 => rfl
theorem mj_dflt_ty {k : Nat} {ty : FieldType} (h : mj_kty k ty) : defaultValue ty = mj_dflt k := by
  match k, h with
  | 0, h => cases h; rfl
  | 1, h => cases h; rfl
  | 2, h => cases h; rfl
  | k + 3, h => rcases h with ⟨C, rfl⟩ | ⟨t, rfl⟩ <;> rfl
section MJC
variable {M : mj_M} {Q : mj_post} {pc len n : Nat} {x : Value} {lv lv' : List (Nat × Value)} {st r : List Value} {h g : mj_H} {nx kc ks : Nat}
/-- the first heap's world behind a cell that is made -/
theorem mj_J.born {E : mj_E} {R : Room} {s : State} {A : Nat → Prop} {h' : mj_H} {H H1 : Heap} {locs : List Loc} {cells slots N : Nat} (hJ : mj_J E R s A h g nx (kc + 1) (ks + N) H locs cells slots) (hA : ∀ q, s.heap.size ≤ q → A q) (hd : ∀ q, mj_d h' q → mj_d h q ∨ q = nx) (hz : H1.size = H.size + 1) (ho : ∀ q, q < H.size → H1[q]? = H[q]?) (hR : mj_R E h' (nx + 1) H1) : mj_J E R s A h' g (nx + 1) kc ks H1 locs (cells + 1) (slots + N) := by
  obtain ⟨j1, j2, j3, j4, j5, j6⟩ := hJ
  have hsz := j1.2.2.2.1
  refine ⟨j1.w (Nat.le_succ _) hd (Or.inr (Nat.le_refl _)) (by omega) (fun q hq _ => ho q (by omega)) hR, fun q hq => ?_, j3, ⟨by have := j4.1; omega, fun q h1 h2 => (ho q (Nat.lt_of_lt_of_le h1 j4.1)).trans (j4.2.1 q h1 h2), j4.2.2⟩, by omega, by omega⟩
  rcases hd q hq with z | z
  · exact j2 q z
  · subst z; exact hA _ (by have := j4.1; omega)
theorem mj_J.at {E : mj_E} {R : Room} {s : State} {A : Nat → Prop} {H : Heap} {locs : List Loc} {cells slots : Nat} (hJ : mj_J E R s A h g nx kc ks H locs cells slots) : H.size = mj_B E + nx := hJ.1.2.2.2.1
theorem mj_Z.cls {E : mj_E} {p : Program} {l : Launch} {e : Env} {R : Room} {s : State} {m : MethodId} {args : Array Value} {below : List Frame} {meth : Method} {c : Code} {A : Nat → Prop} {Z : State → Prop} (hC : mj_Z M E p l e R s m args below meth c A Z Q) {idx ci : Nat} (hf : mj_fc (mj_cl2 M) idx = some ci) : ∃ q : vw_C, mj_cl[ci]? = some q ∧ (Cond.classLink (mj_own M) idx q.1).before args s = true := by
  obtain ⟨w, hw, hw2⟩ := hC.1.2.2.2.2.2.2.2.2.2.1.2.2.2 _ (mj_fc_mem hf)
  unfold mj_cw at hw
  dsimp only at hw
  split at hw
  · next q hq =>
    cases hw
    exact ⟨q, hq, hC.ts _ (List.mem_filter.mpr ⟨List.mem_append_right _ hw2, rfl⟩)⟩
  · cases hw
theorem mj_r_new {idx ci N : Nat} {fs : List Value} (hd : mj_find (mj_tab M) pc = some (.new idx, 3, x, n)) (hc : mj_fc (mj_cl2 M) idx = some ci) (hfs : mj_dl ci = some fs) (hN : fs.length = N) (kk : mj_W M n lv (.ref nx :: st) (mj_so h ci nx fs) g (nx + 1) kc ks Q) : mj_W M pc lv st h g nx (kc + 1) (ks + N) Q := by
  intro E p l e R s m args below meth c A Z hC H locs ls cells slots hJ hl
  obtain ⟨hdg, hn, hxb⟩ := hC.dec hd
  subst hn
  obtain ⟨q, hq, hcl⟩ := hC.cls hc
  obtain ⟨w1, w2, w3, ⟨ty, w4⟩, w5, w6⟩ := mj_kk hq
  obtain ⟨lk, hlk, hlk2⟩ := mj_kt_len hq
  have hfs' : fs = lk.map (fun q => mj_dflt q.1) := by
    unfold mj_dl at hfs
    rw [hlk] at hfs
    exact mj_dv_ok hfs
  have hlen : fs.length = q.2.2 := by rw [hfs', List.length_map]; exact hlk2.1
  have hKn := hC.k.1.1 ci _ hq
  have hsz := hJ.at
  have j5 := hJ.2.2.2.2.1
  have j6 := hJ.2.2.2.2.2
  refine W.newcK (n := q.2.2) hC.x hC.b hC.own hcl (hC.ts _ w2) (hC.ts _ w3) rfl hdg (by omega) (by omega) hKn.2.1 rfl fun H1 kC hkC e1 z1 o1 => ?_
  rw [hsz] at e1 ⊢
  have hN' : q.2.2 = N := by rw [← hlen, hN]
  rw [hN']
  refine kk E p l e R s m args below meth c A Z hC H1 locs ls (cells + 1) (slots + N) (hJ.born hC.2.1 (fun q hq => mj_d_so hq) z1 o1 (hJ.1.1.so (Nat.le_succ _) (Nat.lt_succ_self _) (Or.inr (Nat.le_refl _)) ⟨q, hq, hlen⟩ ⟨q, hq, (u_born ty hC.ts w1 hKn hkC e1 w4).to (fun j hj => ?_)⟩ (fun q hq _ => o1 _ (by omega)))) hl
  have hjl : j < lk.length := by rw [hlk2.1]; exact hj
  have h2 := hlk2.2 j _ (List.getElem?_eq_getElem hjl)
  obtain ⟨-, ty', hty', hkty⟩ := h2
  have e2 : ty j = ty' := Option.some.inj ((w4 j hj).symm.trans hty')
  rw [e2, mj_dflt_ty hkty]
  simp [vp_V, hfs', hjl, mj_v_dflt]
theorem mj_cA {E : mj_E} {s : State} (hk : mj_k E s) {t0 : Nat} {cA cB : ClassId} {ty : FieldType} (h0 : (mj_ty E)[t0]? = some (cB, ty)) (hf : s.vm.findClass ("[" ++ ty.toString) = some cA) : cA = cB := by
  have h := (hk.1.2 t0 _ h0).2
  unfold va_RA at h
  dsimp only at h
  split at h
  · obtain ⟨_, _, _, _, _, h4⟩ := h
    exact Option.some.inj (hf.symm.trans h4)
  · exact Option.some.inj (hf.symm.trans h)
theorem mj_r_newI {v : Int32} {N : Nat} (hd : mj_find (mj_tab M) pc = some (.newarray .int, 2, x, n)) (hv : ¬ v < 0) (hN : v.toNatClampNeg = N) (hb : N ≤ 1000000) (kk : mj_W M n lv (.ref nx :: r) (mj_si h nx N (fun _ => 0)) g (nx + 1) kc ks Q) : mj_W M pc lv (.int v :: r) h g nx (kc + 1) (ks + N) Q := by
  intro E p l e R s m args below meth c A Z hC H locs ls cells slots hJ hl
  obtain ⟨hdg, hn, hxb⟩ := hC.dec hd
  subst hn
  have hsz := hJ.at
  have j5 := hJ.2.2.2.2.1
  have j6 := hJ.2.2.2.2.2
  refine va_newaK (atype := .int) (N := N) hC.x hC.b (hC.ts _ ac_I) rfl hdg rfl hv hN (by show N * 4 ≤ _; omega) (by omega) (by omega) rfl fun H1 cA e1 z1 o1 hAr hNm => ?_
  have hcA : cA = mj_A E 0 := mj_cA hC.k (t0 := 0) rfl hNm
  subst hcA
  rw [hsz] at e1 ⊢
  exact kk E p l e R s m args below meth c A Z hC H1 locs ls (cells + 1) (slots + N) (hJ.born hC.2.1 (fun q hq => mj_d_si hq) z1 o1 (hJ.1.1.si (Nat.le_succ _) (Nat.lt_succ_self _) (Or.inr (Nat.le_refl _)) e1 (fun q hq _ => o1 _ (by omega)))) hl
theorem mj_r_newJ {v : Int32} {N : Nat} (hd : mj_find (mj_tab M) pc = some (.newarray .long, 2, x, n)) (hv : ¬ v < 0) (hN : v.toNatClampNeg = N) (hb : N ≤ 1000000) (kk : mj_W M n lv (.ref nx :: r) (mj_sl h nx N (fun _ => 0)) g (nx + 1) kc ks Q) : mj_W M pc lv (.int v :: r) h g nx (kc + 1) (ks + N) Q := by
  intro E p l e R s m args below meth c A Z hC H locs ls cells slots hJ hl
  obtain ⟨hdg, hn, hxb⟩ := hC.dec hd
  subst hn
  have hsz := hJ.at
  have j5 := hJ.2.2.2.2.1
  have j6 := hJ.2.2.2.2.2
  refine va_newaK (atype := .long) (N := N) hC.x hC.b (hC.ts _ ac_J) rfl hdg rfl hv hN (by show N * 8 ≤ _; omega) (by omega) (by omega) rfl fun H1 cA e1 z1 o1 hAr hNm => ?_
  have hcA : cA = mj_A E 1 := mj_cA hC.k (t0 := 1) rfl hNm
  subst hcA
  rw [hsz] at e1 ⊢
  exact kk E p l e R s m args below meth c A Z hC H1 locs ls (cells + 1) (slots + N) (hJ.born hC.2.1 (fun q hq => mj_d_sl hq) z1 o1 (hJ.1.1.sl (Nat.le_succ _) (Nat.lt_succ_self _) (Or.inr (Nat.le_refl _)) e1 (fun q hq _ => o1 _ (by omega)))) hl
theorem mj_r_newA {v : Int32} {N idx ci : Nat} (hd : mj_find (mj_tab M) pc = some (.anewarray idx, 3, x, n)) (hc : mj_fc (mj_cl2 M) idx = some ci) (hci : ci ∈ mj_ao) (hv : ¬ v < 0) (hN : v.toNatClampNeg = N) (hb : N ≤ 1000000) (kk : mj_W M n lv (.ref nx :: r) (mj_sr h ci nx N (fun _ => none)) g (nx + 1) kc ks Q) : mj_W M pc lv (.int v :: r) h g nx (kc + 1) (ks + N) Q := by
  intro E p l e R s m args below meth c A Z hC H locs ls cells slots hJ hl
  obtain ⟨hdg, hn, hxb⟩ := hC.dec hd
  subst hn
  subst hN
  obtain ⟨q, hq, hcl⟩ := hC.cls hc
  have hcn : mj_cn ci = q.1 := by unfold mj_cn; rw [hq]
  have hsz := hJ.at
  have j5 := hJ.2.2.2.2.1
  have j6 := hJ.2.2.2.2.2
  obtain ⟨t0, ht0⟩ := mj_ty_ao E hci
  refine W.anew hC.x hC.b hC.own hcl (va_AO.use (by rw [← hcn]; exact hC.k.2.2 ci hci)) rfl hdg rfl hv (by omega) (by omega) (by omega) fun cA kA comp f1 f2 f3 f4 => ?_
  rw [hcn] at ht0
  have hcA : cA = mj_A E (2 + ci) := mj_cA hC.k ht0 f1
  subst hcA
  generalize hH1 : H.push ({ cls := mj_A E (2 + ci), slots := Array.replicate v.toNatClampNeg .null, vm := .none } : Cell) = H1
  have z1 : H1.size = H.size + 1 := by rw [← hH1, Array.size_push]
  have e1 : H1[H.size]? = some (arrV (mj_A E (2 + ci)) v.toNatClampNeg (fun _ => .null)) := by rw [← hH1, Array.getElem?_push_size, ← arrV_new]
  have o1 : ∀ q : Nat, q < H.size → H1[q]? = H[q]? := fun q hq => by rw [← hH1, Array.getElem?_push, if_neg (Nat.ne_of_lt hq)]
  rw [hsz] at e1 ⊢
  exact kk E p l e R s m args below meth c A Z hC H1 locs ls (cells + 1) (slots + v.toNatClampNeg) (hJ.born hC.2.1 (fun q hq => mj_d_sr hq) z1 o1 (hJ.1.1.sr (Nat.le_succ _) (Nat.lt_succ_self _) (Or.inr (Nat.le_refl _)) hci e1 (fun q hq _ => o1 _ (by omega)))) hl
theorem mj_J.le {E : mj_E} {R : Room} {s : State} {A : Nat → Prop} {H : Heap} {locs : List Loc} {cells slots kc' ks' : Nat} (hJ : mj_J E R s A h g nx kc ks H locs cells slots) (h1 : kc' ≤ kc) (h2 : ks' ≤ ks) : mj_J E R s A h g nx kc' ks' H locs cells slots := by
  obtain ⟨j1, j2, j3, j4, j5, j6⟩ := hJ
  exact ⟨j1, j2, j3, j4, by omega, by omega⟩
/-- less room is enough -/
theorem mj_W.le {kc' ks' : Nat} (h1 : kc' ≤ kc) (h2 : ks' ≤ ks) (k : mj_W M pc lv st h g nx kc' ks' Q) : mj_W M pc lv st h g nx kc ks Q := fun E p l e R s m args below meth c A Z hC H locs ls cells slots hJ hl => k E p l e R s m args below meth c A Z hC H locs ls cells slots (hJ.le h1 h2) hl
theorem mj_r_ret (hd : mj_find (mj_tab M) pc = some (.return_, 1, x, n)) (hr : mj_ret M = none) (q : Q.2 none h g nx) : mj_W M pc lv [] h g nx kc ks Q := fun E p l e R s m args below meth c A Z hC H locs ls cells slots hJ hl =>
  hC.2.2.1 none h g nx q H locs ls cells slots pc (hJ.le (Nat.zero_le _) (Nat.zero_le _)) ⟨⟨_, hd⟩, hr⟩
theorem mj_r_iret {v : Int32} {ty : FieldType} (hd : mj_find (mj_tab M) pc = some (.ireturn, 1, x, n)) (hr : mj_ret M = some ty) (hv : narrow ty (.int v) = .int v) (q : Q.2 (some (.int v)) h g nx) : mj_W M pc lv [.int v] h g nx kc ks Q := fun E p l e R s m args below meth c A Z hC H locs ls cells slots hJ hl =>
  hC.2.2.1 (some (.int v)) h g nx q H locs ls cells slots pc (hJ.le (Nat.zero_le _) (Nat.zero_le _)) ⟨⟨_, hd⟩, ty, hr, hv⟩
theorem mj_r_lret {v : Int64} (hd : mj_find (mj_tab M) pc = some (.lreturn, 1, x, n)) (hr : mj_ret M = some .long) (q : Q.2 (some (.long v)) h g nx) : mj_W M pc lv [.long v] h g nx kc ks Q := fun E p l e R s m args below meth c A Z hC H locs ls cells slots hJ hl =>
  hC.2.2.1 (some (.long v)) h g nx q H locs ls cells slots pc (hJ.le (Nat.zero_le _) (Nat.zero_le _)) ⟨⟨_, hd⟩, hr⟩
theorem mj_r_aret {v : Nat} {C : String} (hd : mj_find (mj_tab M) pc = some (.areturn, 1, x, n)) (hr : mj_ret M = some (.object C)) (q : Q.2 (some (.ref v)) h g nx) : mj_W M pc lv [.ref v] h g nx kc ks Q := fun E p l e R s m args below meth c A Z hC H locs ls cells slots hJ hl =>
  hC.2.2.1 (some (.ref v)) h g nx q H locs ls cells slots pc (hJ.le (Nat.zero_le _) (Nat.zero_le _)) ⟨⟨_, hd⟩, C, hr⟩
theorem mj_r_aretN {C : String} (hd : mj_find (mj_tab M) pc = some (.areturn, 1, x, n)) (hr : mj_ret M = some (.object C)) (q : Q.2 (some .null) h g nx) : mj_W M pc lv [.null] h g nx kc ks Q := fun E p l e R s m args below meth c A Z hC H locs ls cells slots hJ hl =>
  hC.2.2.1 (some .null) h g nx q H locs ls cells slots pc (hJ.le (Nat.zero_le _) (Nat.zero_le _)) ⟨⟨_, hd⟩, C, hr⟩
theorem mj_r_oi {idx a : Nat} (hd : mj_find (mj_tab M) pc = some (.invokespecial idx, 3, x, n)) (hli : Cond.methodLink (mj_own M) idx objectInit ∈ mj_G) (hfr : 1 ≤ mj_fr M) (hlo : (r.map Value.category).sum + 12 ≤ mj_lo M) (kk : mj_W M n lv r h g nx kc ks Q) : mj_W M pc lv (.ref a :: r) h g nx kc ks Q := by
  intro E p l e R s m args below meth c A Z hC H locs ls cells slots hJ hl
  obtain ⟨hdg, hn, hxb⟩ := hC.dec hd
  subst hn
  have f1 := hC.1.2.2.2.2.2.2.2.2.2.2.1
  have f2 := hC.1.2.2.2.2.2.2.2.2.2.2.2
  have hc : (List.map (fun v => v.category) (r.map (mj_v E))) = r.map Value.category := by
    rw [List.map_map]
    exact List.map_congr_left (fun v _ => mj_v_cat E v)
  refine W.objInit hC.x hC.b hC.own (hC.ts _ hli) (hC.ts _ mj_oi) (hC.ts _ mj_oc) rfl (by rw [hC.1.2.2.2.1]; exact hl.1) rfl hdg (by omega) ?_ (kk E p l e R s m args below meth c A Z hC H locs ls cells slots hJ hl)
  rw [hc]
  show 2 * (F0 m pc ls _).monitorRoom + _ + 12 ≤ _
  have : (F0 m pc ls (List.map (mj_v E) (Value.ref a :: r))).monitorRoom = 0 := rfl
  omega
/-- the two heaps change places -/
theorem mj_J.swap {E : mj_E} {R : Room} {s : State} {A : Nat → Prop} {H : Heap} {locs : List Loc} {cells slots : Nat} (hJ : mj_J E R s A h g nx kc ks H locs cells slots) : mj_J E R s A g h nx kc ks H locs cells slots := by
  obtain ⟨⟨a1, a2, a3, a4⟩, j2, j3, j4⟩ := hJ
  exact ⟨⟨a2, a1, fun a x y => a3 a y x, a4⟩, j3, j2, j4⟩
theorem mj_W.swap (k : mj_W M pc lv st g h nx kc ks (Q.1, fun r a b n' => Q.2 r b a n')) : mj_W M pc lv st h g nx kc ks Q := fun E p l e R s m args below meth c A Z hC H locs ls cells slots hJ hl =>
  k E p l e R s m args below meth c A Z ⟨hC.1, hC.2.1, fun r h' g' nx' q H locs ls cells slots pc' hJ hf => hC.2.2.1 r g' h' nx' q H locs ls cells slots pc' hJ.swap hf, hC.2.2.2⟩ H locs ls cells slots hJ.swap hl
/-- fewer locals are known -/
def mj_pk (lv : List (Nat × Value)) : List Nat → Option (List (Nat × Value))
  | [] => some []
  | i :: t => match mj_get lv i with
    | some v => match mj_pk lv t with
      | some l => some ((i, v) :: l)
      | none => none
    | none => none
theorem mj_pk_mem : ∀ {is : List Nat} {l : List (Nat × Value)}, mj_pk lv is = some l → ∀ q ∈ l, q ∈ lv := by
  intro is
  induction is with
  | nil => intro l h q hq; cases h; cases hq
  | cons i t ih =>
    intro l h q hq
    unfold mj_pk at h
    split at h
    · next v hv =>
      split at h
      · next l' hl' =>
        cases h
        rcases List.mem_cons.mp hq with z | z
        · subst z; exact mj_get_mem hv
        · exact ih hl' q z
      · cases h
    · cases h
theorem mj_W.fewer (is : List Nat) (hp : mj_pk lv is = some lv') (k : mj_W M pc lv' st h g nx kc ks Q) : mj_W M pc lv st h g nx kc ks Q := fun E p l e R s m args below meth c A Z hC H locs ls cells slots hJ hl =>
  k E p l e R s m args below meth c A Z hC H locs ls cells slots hJ ⟨hl.1, hl.2.1, fun q hq => by
    obtain ⟨q0, h0, rfl⟩ := List.mem_map.mp hq
    exact hl.2.2 _ (List.mem_map.mpr ⟨q0, mj_pk_mem hp q0 h0, rfl⟩)⟩
end MJC
/-- which cells a callee may change -/
def mj_Af (E : mj_E) (h : mj_H) (nx : Nat) : Nat → Prop := fun q => (∃ a, mj_d h a ∧ q = mj_B E + a) ∨ mj_B E + nx ≤ q
def mj_Qc (E : mj_E) (h : mj_H) (nx : Nat) (Q : Option Value → mj_H → Nat → Prop) : State → Outcome → State → Prop := fun st oc t => (∃ r h' nx', oc = .returned (r.map (mj_v E)) ∧ Q r h' nx' ∧ mj_S E h' mj_0 nx' t t.heap ∧ nx ≤ nx' ∧ ∀ a, mj_d h' a → mj_d h a ∨ nx ≤ a) ∧ va_F (mj_Af E h nx) st t
abbrev mj_ws (M : mj_M) : List Cond := Cond.code (mj_y M) (mj_cc M) (mj_nL M) (mj_ret M) :: mj_G
abbrev mj_rm (M : mj_M) (mc ms : Nat) : Room := { frames := mj_fr M, cells := mc, slots := ms, locals := mj_lo M }
abbrev mj_Pc (E : mj_E) (as : List Value) (h : mj_H) (nx : Nat) : Array Value → State → Prop := va_Pc (as.map (mj_v E)) (fun U => mj_S E h mj_0 nx U U.heap ∧ mj_k E U)
/-- A CONTRACT: from the heap h, with the arguments as, at most mc cells of ms slots more: Q of the answer, the heap, the next number -/
def mj_K (M : mj_M) (as : List Value) (h : mj_H) (nx mc ms : Nat) (Q : Option Value → mj_H → Nat → Prop) : Prop :=
  ∀ (l : Launch) (E : mj_E), Met l (mj_y M) (mj_ws M) (mj_rm M mc ms) (mj_Pc E as h nx) (fun _ => mj_Qc E h nx Q) mc ms (mj_Af E h nx)
theorem mj_sl_len (E : mj_E) (as : List Value) : (lg_sl (as.map (mj_v E))).length = (lg_sl as).length := by
  induction as with
  | nil => rfl
  | cons v t ih =>
    unfold lg_sl at ih ⊢
    rw [List.map_cons, List.flatMap_cons, List.flatMap_cons, List.length_append, List.length_append, ih, mj_v_cat]
    split <;> rfl
theorem mj_args_map (E : mj_E) (as : List Value) : ∀ i, lv_args i (as.map (mj_v E)) = mj_lv E (lv_args i as) := by
  induction as with
  | nil => intro i; rfl
  | cons v t ih =>
    intro i
    show (i, mj_v E v) :: lv_args (if (mj_v E v).category = 2 then i + 2 else i + 1) (t.map (mj_v E)) = (i, mj_v E v) :: mj_lv E (lv_args (if v.category = 2 then i + 2 else i + 1) t)
    rw [ih, mj_v_cat]
theorem mj_K.of {M : mj_M} {as : List Value} {h : mj_H} {nx mc ms N : Nat} {Q : Option Value → mj_H → Nat → Prop} (hok : mj_ok M) (hck : mj_ck M N) (hlen : (lg_sl as).length ≤ mj_nL M) (w : mj_W M 0 (lv_args 0 as) [] h mj_0 nx mc ms (fun _ => True, fun r h' _ nx' => Q r h' nx')) : mj_K M as h nx mc ms Q := by
  intro l E
  refine Met.ofW (cc := mj_cc M) (maxL := mj_nL M) (ret := mj_ret M) hck.2.2.2.1 rfl ?_
  intro p e s m args below meth c s₁ B hml hv
  obtain ⟨rfl, hS, hk⟩ := hv
  have hts := atoms_spec (ws := mj_ws M) B.pre
  have hown : s.vm.findClass (mj_own M) = some m.cls := by rw [← hck.2.2.2.2]; exact findClass_of_methodNamed B.named
  have hX : mj_X M E p (mj_rm M mc ms) s m (as.map (mj_v E)).toArray meth c := ⟨B.exec, B.bytes, B.returns, hml, hown, fun w hw => hts w (List.mem_cons_of_mem _ hw), hk, B.notSynchronized, (name_of_methodNamed B.named B.method).1, hok, Nat.le_refl _, Nat.le_refl _⟩
  have hsz : s.heap.size = mj_B E + nx := hS.2.2.2.1
  have hA : ∀ q, s.heap.size ≤ q → mj_Af E h nx q := fun q hq => Or.inr (by omega)
  have hl := lv_entry (as.map (mj_v E)) (n := mj_nL M) (by rw [mj_sl_len]; exact hlen)
  rw [lg_entry_eq]
  rw [mj_args_map] at hl
  refine w E p l e (mj_rm M mc ms) s m _ below meth c (mj_Af E h nx) _ ⟨hX, hA, ?_, trivial⟩ s.heap [] _ 0 0 ⟨hS, fun a ha => Or.inl ⟨a, ha, rfl⟩, fun a ha => (mj_d_0 ha).elim, va_S.rf, by show 0 + mc ≤ mc; omega, by show 0 + ms ≤ ms; omega⟩ hl
  intro r h' g' nx' hQ H locs ls cells slots pc' hJ hfin
  obtain ⟨⟨j1, -, -, j1d, j1e, j1f⟩, j2, -, j4, j5, j6⟩ := hJ
  have hfin' : ∀ i y, mj_find (mj_tab M) pc' = some (i, 1, y) → decode (mj_cc M) pc' = .ok (i, 1) := fun i y hy => (hok.1 _ (mj_find_mem hy)).1
  have post : ∀ t : State, t.heap = H → s.WarmedH t.vm → mj_Qc E h nx Q s (.returned (r.map (mj_v E))) t := fun t ht hW => by
    refine ⟨⟨r, h', nx', rfl, hQ, ?_, ?_, ?_⟩, j4.F ht⟩
    · rw [ht]
      exact ⟨j1, mj_R_0 E nx' H, fun a _ hb => mj_d_0 hb, j1d, j1e.moved hW.alike, j1f⟩
    · have := j4.1
      omega
    · intro a ha
      rcases j2 a ha with ⟨a', h1, h2⟩ | h2
      · left
        rw [Nat.add_left_cancel h2]
        exact h1
      · right
        omega
  refine W.widen (k := mc) (n := ms) (by have : cells + 0 ≤ mc := j5; omega) (by have : slots + 0 ≤ ms := j6; omega) ?_
  match r, hfin with
  | none, ⟨⟨y, hy⟩, hr⟩ => exact W.vret B.exec B.bytes (B.returns.trans hr) post j4.2.2 (hfin' _ _ hy) B.notSynchronized
  | some (.int v), ⟨⟨y, hy⟩, ty, hr, hn⟩ => exact W.zret B.exec B.bytes (B.returns.trans hr) hn post j4.2.2 (hfin' _ _ hy) B.notSynchronized
  | some (.long v), ⟨⟨y, hy⟩, hr⟩ => exact W.lret B.exec B.bytes (B.returns.trans hr) post j4.2.2 (hfin' _ _ hy) B.notSynchronized
  | some (.ref v), ⟨⟨y, hy⟩, C, hr⟩ => exact W.aret B.exec B.bytes (B.returns.trans hr) (Or.inl ⟨C, rfl⟩) (Or.inr ⟨_, rfl⟩) post j4.2.2 (hfin' _ _ hy) B.notSynchronized
  | some .null, ⟨⟨y, hy⟩, C, hr⟩ => exact W.aret B.exec B.bytes (B.returns.trans hr) (Or.inl ⟨C, rfl⟩) (Or.inl rfl) post j4.2.2 (hfin' _ _ hy) B.notSynchronized
theorem mj_K.mono {M : mj_M} {as : List Value} {h : mj_H} {nx mc ms : Nat} {Q Q' : Option Value → mj_H → Nat → Prop} (hk : mj_K M as h nx mc ms Q) (hq : ∀ r h' nx', Q r h' nx' → Q' r h' nx') : mj_K M as h nx mc ms Q' := by
  intro l E p e ha hc hf s m args below h1 h2 h3 h4
  obtain ⟨t, o, a1, a2, a3, ⟨⟨⟨r, h', nx', b1, b2, b3⟩, b4⟩, b5⟩⟩ := hk l E p e ha hc hf s m args below h1 h2 h3 h4
  exact ⟨t, o, a1, a2, a3, ⟨⟨⟨r, h', nx', b1, hq _ _ _ b2, b3⟩, b4⟩, b5⟩⟩
