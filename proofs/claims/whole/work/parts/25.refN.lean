/-! the reference: write, its loop -/
def ak (op a b x y i : Int32) : Prop := i = a ∨ ((¬ op = 0 ∧ ¬ op = 5 ∧ ¬ op = 9) ∧ i = b) ∨ (op = 7 ∧ i = y) ∨ (op = 8 ∧ i = x)
set_option maxRecDepth 20000 in
set_option maxHeartbeats 4000000 in
theorem rl_wbody {Q : mj_post} {nx i kk bb a b : Nat} {n op z : Int32} {T : rf_S} {m : mS} {nd : Nat → Int64} (hi : i < 16) (hk : kk < 216) (hop : T.1 0 kk = op) (ha : T.1 1 kk = nI a) (ha2 : a < 16) (hb : T.1 2 kk = nI b) (hb2 : b < 16)
    (k1 : ak op (nI a) (nI b) (m.1 a &&& 15) (m.1 b &&& 15) (nI i) → ∀ lv, mj_pk lv [0, 1, 2, 3, 5, 6] = some [(0, .ref 21), (1, .int (nI bb)), (2, .int n), (3, .int 1), (5, .int (nI kk)), (6, .int (nI i))] → mj_W me_Ref_write 206 lv [] (rf_h (sX T m nd)) mj_0 nx 0 0 Q)
    (k2 : ¬ ak op (nI a) (nI b) (m.1 a &&& 15) (m.1 b &&& 15) (nI i) → ∀ lv, mj_pk lv [0, 1, 2, 3, 4, 5, 6] = some [(0, .ref 21), (1, .int (nI bb)), (2, .int n), (3, .int 1), (4, .int z), (5, .int (nI kk)), (6, .int (nI i))] → mj_W me_Ref_write 271 lv [] (rf_h (sX T m nd)) mj_0 nx 0 0 Q) :
    mj_W me_Ref_write 65 [(0, .ref 21), (1, .int (nI bb)), (2, .int n), (3, .int 1), (4, .int z), (5, .int (nI kk)), (6, .int (nI i))] [] (rf_h (sX T m nd)) mj_0 nx 0 0 Q := by
  have g0 : (sX T m nd).1 0 kk = op := hop
  have g1 : (sX T m nd).1 1 kk = nI a := ha
  have g2 : (sX T m nd).1 2 kk = nI b := hb
  have f1 : ∀ lv, mj_get lv 9 = some (.int 1) → mj_pk lv [0, 1, 2, 3, 5, 6] = some [(0, .ref 21), (1, .int (nI bb)), (2, .int n), (3, .int 1), (5, .int (nI kk)), (6, .int (nI i))] → ak op (nI a) (nI b) (m.1 a &&& 15) (m.1 b &&& 15) (nI i) → mj_W me_Ref_write 201 lv [] (rf_h (sX T m nd)) mj_0 nx 0 0 Q := fun lv h1 h2 h3 => mj_r_iload rfl h1 (mj_r_if_eq rfl (fun q => absurd q (by decide)) (fun _ => k1 h3 lv h2))
  have f0 : ∀ lv, mj_get lv 9 = some (.int 0) → mj_pk lv [0, 1, 2, 3, 4, 5, 6] = some [(0, .ref 21), (1, .int (nI bb)), (2, .int n), (3, .int 1), (4, .int z), (5, .int (nI kk)), (6, .int (nI i))] → ¬ ak op (nI a) (nI b) (m.1 a &&& 15) (m.1 b &&& 15) (nI i) → mj_W me_Ref_write 201 lv [] (rf_h (sX T m nd)) mj_0 nx 0 0 Q := fun lv h1 h2 h3 => mj_r_iload rfl h1 (mj_r_if_eq rfl (fun _ => k2 h3 lv h2) (fun q => absurd rfl q))
  iterate 2 (refine mj_r_pure rfl rfl ?_)
  refine mj_r_icmp_ge rfl (fun c1 => absurd c1 (nI_ge (a := i) (b := 16) (by omega) (by omega))) (fun c1 => ?_)
  refine mj_r_pure rfl rfl ?_
  refine mj_r_if_lt rfl (fun c2 => absurd c2 (nI_pos (by omega))) (fun c2 => ?_)
  refine mj_r_pure rfl rfl ?_
  refine rr_get rfl rfl rfl ?_
  refine mj_r_pure rfl rfl ?_
  refine rx_iald rfl rfl (by first | rfl | assumption) (by omega) ?_
  rw [g0]
  iterate 2 (refine mj_r_pure rfl rfl ?_)
  refine mj_r_if_eq rfl (fun c3 => ?_) (fun c3 => ?_)
  · iterate 4 (refine mj_r_pure rfl rfl ?_)
    refine rr_get rfl rfl rfl ?_
    refine mj_r_pure rfl rfl ?_
    refine rx_iald rfl rfl (by first | rfl | assumption) (by omega) ?_
    rw [g1]
    refine mj_r_icmp_eq rfl (fun c4 => ?_) (fun c4 => ?_)
    · iterate 3 (refine mj_r_pure rfl rfl ?_)
      first | exact f1 _ rfl rfl (by unfold ak; clear f1 f0 k1 k2 g0 g1 g2 hop ha hb c1 c2; grind) | exact f0 _ rfl rfl (by unfold ak; clear f1 f0 k1 k2 g0 g1 g2 hop ha hb c1 c2; grind)
    · refine mj_r_pure rfl rfl ?_
      refine mj_r_if_eq rfl (fun c5 => ?_) (fun c5 => ?_)
      · iterate 2 (refine mj_r_pure rfl rfl ?_)
        refine mj_r_icmp_ne rfl (fun c6 => ?_) (fun c6 => ?_)
        · iterate 2 (refine mj_r_pure rfl rfl ?_)
          refine mj_r_icmp_ne rfl (fun c7 => ?_) (fun c7 => ?_)
          · iterate 2 (refine mj_r_pure rfl rfl ?_)
            first | exact f1 _ rfl rfl (by unfold ak; clear f1 f0 k1 k2 g0 g1 g2 hop ha hb c1 c2; grind) | exact f0 _ rfl rfl (by unfold ak; clear f1 f0 k1 k2 g0 g1 g2 hop ha hb c1 c2; grind)
          · iterate 2 (refine mj_r_pure rfl rfl ?_)
            refine rr_get rfl rfl rfl ?_
            refine mj_r_pure rfl rfl ?_
            refine rr_get rfl rfl rfl ?_
            refine mj_r_pure rfl rfl ?_
            refine rx_iald rfl rfl (by first | rfl | assumption) (by omega) ?_
            refine rx_iald rfl rfl g1 (by omega) ?_
            iterate 2 (refine mj_r_pure rfl rfl ?_)
            change mj_W _ _ _ [.int (m.1 a &&& 15), .int (nI i)] _ _ _ _ _ _
            refine mj_r_icmp_ne rfl (fun c8 => ?_) (fun c8 => ?_)
            · iterate 2 (refine mj_r_pure rfl rfl ?_)
              first | exact f1 _ rfl rfl (by unfold ak; clear f1 f0 k1 k2 g0 g1 g2 hop ha hb c1 c2; grind) | exact f0 _ rfl rfl (by unfold ak; clear f1 f0 k1 k2 g0 g1 g2 hop ha hb c1 c2; grind)
            · iterate 3 (refine mj_r_pure rfl rfl ?_)
              first | exact f1 _ rfl rfl (by unfold ak; clear f1 f0 k1 k2 g0 g1 g2 hop ha hb c1 c2; grind) | exact f0 _ rfl rfl (by unfold ak; clear f1 f0 k1 k2 g0 g1 g2 hop ha hb c1 c2; grind)
        · iterate 2 (refine mj_r_pure rfl rfl ?_)
          refine rr_get rfl rfl rfl ?_
          refine mj_r_pure rfl rfl ?_
          refine rr_get rfl rfl rfl ?_
          refine mj_r_pure rfl rfl ?_
          refine rx_iald rfl rfl (by first | rfl | assumption) (by omega) ?_
          refine rx_iald rfl rfl g2 (by omega) ?_
          iterate 2 (refine mj_r_pure rfl rfl ?_)
          change mj_W _ _ _ [.int (m.1 b &&& 15), .int (nI i)] _ _ _ _ _ _
          refine mj_r_icmp_eq rfl (fun c9 => ?_) (fun c9 => ?_)
          · iterate 3 (refine mj_r_pure rfl rfl ?_)
            first | exact f1 _ rfl rfl (by unfold ak; clear f1 f0 k1 k2 g0 g1 g2 hop ha hb c1 c2; grind) | exact f0 _ rfl rfl (by unfold ak; clear f1 f0 k1 k2 g0 g1 g2 hop ha hb c1 c2; grind)
          · iterate 2 (refine mj_r_pure rfl rfl ?_)
            refine mj_r_icmp_ne rfl (fun c10 => ?_) (fun c10 => ?_)
            · iterate 2 (refine mj_r_pure rfl rfl ?_)
              first | exact f1 _ rfl rfl (by unfold ak; clear f1 f0 k1 k2 g0 g1 g2 hop ha hb c1 c2; grind) | exact f0 _ rfl rfl (by unfold ak; clear f1 f0 k1 k2 g0 g1 g2 hop ha hb c1 c2; grind)
            · iterate 2 (refine mj_r_pure rfl rfl ?_)
              refine rr_get rfl rfl rfl ?_
              refine mj_r_pure rfl rfl ?_
              refine rr_get rfl rfl rfl ?_
              refine mj_r_pure rfl rfl ?_
              refine rx_iald rfl rfl (by first | rfl | assumption) (by omega) ?_
              refine rx_iald rfl rfl g1 (by omega) ?_
              iterate 2 (refine mj_r_pure rfl rfl ?_)
              change mj_W _ _ _ [.int (m.1 a &&& 15), .int (nI i)] _ _ _ _ _ _
              refine mj_r_icmp_ne rfl (fun c11 => ?_) (fun c11 => ?_)
              · iterate 2 (refine mj_r_pure rfl rfl ?_)
                first | exact f1 _ rfl rfl (by unfold ak; clear f1 f0 k1 k2 g0 g1 g2 hop ha hb c1 c2; grind) | exact f0 _ rfl rfl (by unfold ak; clear f1 f0 k1 k2 g0 g1 g2 hop ha hb c1 c2; grind)
              · iterate 3 (refine mj_r_pure rfl rfl ?_)
                first | exact f1 _ rfl rfl (by unfold ak; clear f1 f0 k1 k2 g0 g1 g2 hop ha hb c1 c2; grind) | exact f0 _ rfl rfl (by unfold ak; clear f1 f0 k1 k2 g0 g1 g2 hop ha hb c1 c2; grind)
      · iterate 2 (refine mj_r_pure rfl rfl ?_)
        refine rr_get rfl rfl rfl ?_
        refine mj_r_pure rfl rfl ?_
        refine rx_iald rfl rfl (by first | rfl | assumption) (by omega) ?_
        rw [g2]
        refine mj_r_icmp_eq rfl (fun c12 => ?_) (fun c12 => ?_)
        · iterate 3 (refine mj_r_pure rfl rfl ?_)
          first | exact f1 _ rfl rfl (by unfold ak; clear f1 f0 k1 k2 g0 g1 g2 hop ha hb c1 c2; grind) | exact f0 _ rfl rfl (by unfold ak; clear f1 f0 k1 k2 g0 g1 g2 hop ha hb c1 c2; grind)
        · iterate 2 (refine mj_r_pure rfl rfl ?_)
          refine mj_r_icmp_ne rfl (fun c13 => ?_) (fun c13 => ?_)
          · iterate 2 (refine mj_r_pure rfl rfl ?_)
            refine mj_r_icmp_ne rfl (fun c14 => ?_) (fun c14 => ?_)
            · iterate 2 (refine mj_r_pure rfl rfl ?_)
              first | exact f1 _ rfl rfl (by unfold ak; clear f1 f0 k1 k2 g0 g1 g2 hop ha hb c1 c2; grind) | exact f0 _ rfl rfl (by unfold ak; clear f1 f0 k1 k2 g0 g1 g2 hop ha hb c1 c2; grind)
            · iterate 2 (refine mj_r_pure rfl rfl ?_)
              refine rr_get rfl rfl rfl ?_
              refine mj_r_pure rfl rfl ?_
              refine rr_get rfl rfl rfl ?_
              refine mj_r_pure rfl rfl ?_
              refine rx_iald rfl rfl (by first | rfl | assumption) (by omega) ?_
              refine rx_iald rfl rfl g1 (by omega) ?_
              iterate 2 (refine mj_r_pure rfl rfl ?_)
              change mj_W _ _ _ [.int (m.1 a &&& 15), .int (nI i)] _ _ _ _ _ _
              refine mj_r_icmp_ne rfl (fun c15 => ?_) (fun c15 => ?_)
              · iterate 2 (refine mj_r_pure rfl rfl ?_)
                first | exact f1 _ rfl rfl (by unfold ak; clear f1 f0 k1 k2 g0 g1 g2 hop ha hb c1 c2; grind) | exact f0 _ rfl rfl (by unfold ak; clear f1 f0 k1 k2 g0 g1 g2 hop ha hb c1 c2; grind)
              · iterate 3 (refine mj_r_pure rfl rfl ?_)
                first | exact f1 _ rfl rfl (by unfold ak; clear f1 f0 k1 k2 g0 g1 g2 hop ha hb c1 c2; grind) | exact f0 _ rfl rfl (by unfold ak; clear f1 f0 k1 k2 g0 g1 g2 hop ha hb c1 c2; grind)
          · iterate 2 (refine mj_r_pure rfl rfl ?_)
            refine rr_get rfl rfl rfl ?_
            refine mj_r_pure rfl rfl ?_
            refine rr_get rfl rfl rfl ?_
            refine mj_r_pure rfl rfl ?_
            refine rx_iald rfl rfl (by first | rfl | assumption) (by omega) ?_
            refine rx_iald rfl rfl g2 (by omega) ?_
            iterate 2 (refine mj_r_pure rfl rfl ?_)
            change mj_W _ _ _ [.int (m.1 b &&& 15), .int (nI i)] _ _ _ _ _ _
            refine mj_r_icmp_eq rfl (fun c16 => ?_) (fun c16 => ?_)
            · iterate 3 (refine mj_r_pure rfl rfl ?_)
              first | exact f1 _ rfl rfl (by unfold ak; clear f1 f0 k1 k2 g0 g1 g2 hop ha hb c1 c2; grind) | exact f0 _ rfl rfl (by unfold ak; clear f1 f0 k1 k2 g0 g1 g2 hop ha hb c1 c2; grind)
            · iterate 2 (refine mj_r_pure rfl rfl ?_)
              refine mj_r_icmp_ne rfl (fun c17 => ?_) (fun c17 => ?_)
              · iterate 2 (refine mj_r_pure rfl rfl ?_)
                first | exact f1 _ rfl rfl (by unfold ak; clear f1 f0 k1 k2 g0 g1 g2 hop ha hb c1 c2; grind) | exact f0 _ rfl rfl (by unfold ak; clear f1 f0 k1 k2 g0 g1 g2 hop ha hb c1 c2; grind)
              · iterate 2 (refine mj_r_pure rfl rfl ?_)
                refine rr_get rfl rfl rfl ?_
                refine mj_r_pure rfl rfl ?_
                refine rr_get rfl rfl rfl ?_
                refine mj_r_pure rfl rfl ?_
                refine rx_iald rfl rfl (by first | rfl | assumption) (by omega) ?_
                refine rx_iald rfl rfl g1 (by omega) ?_
                iterate 2 (refine mj_r_pure rfl rfl ?_)
                change mj_W _ _ _ [.int (m.1 a &&& 15), .int (nI i)] _ _ _ _ _ _
                refine mj_r_icmp_ne rfl (fun c18 => ?_) (fun c18 => ?_)
                · iterate 2 (refine mj_r_pure rfl rfl ?_)
                  first | exact f1 _ rfl rfl (by unfold ak; clear f1 f0 k1 k2 g0 g1 g2 hop ha hb c1 c2; grind) | exact f0 _ rfl rfl (by unfold ak; clear f1 f0 k1 k2 g0 g1 g2 hop ha hb c1 c2; grind)
                · iterate 3 (refine mj_r_pure rfl rfl ?_)
                  first | exact f1 _ rfl rfl (by unfold ak; clear f1 f0 k1 k2 g0 g1 g2 hop ha hb c1 c2; grind) | exact f0 _ rfl rfl (by unfold ak; clear f1 f0 k1 k2 g0 g1 g2 hop ha hb c1 c2; grind)
  · iterate 2 (refine mj_r_pure rfl rfl ?_)
    refine mj_r_icmp_eq rfl (fun c19 => ?_) (fun c19 => ?_)
    · iterate 4 (refine mj_r_pure rfl rfl ?_)
      refine rr_get rfl rfl rfl ?_
      refine mj_r_pure rfl rfl ?_
      refine rx_iald rfl rfl (by first | rfl | assumption) (by omega) ?_
      rw [g1]
      refine mj_r_icmp_eq rfl (fun c20 => ?_) (fun c20 => ?_)
      · iterate 3 (refine mj_r_pure rfl rfl ?_)
        first | exact f1 _ rfl rfl (by unfold ak; clear f1 f0 k1 k2 g0 g1 g2 hop ha hb c1 c2; grind) | exact f0 _ rfl rfl (by unfold ak; clear f1 f0 k1 k2 g0 g1 g2 hop ha hb c1 c2; grind)
      · refine mj_r_pure rfl rfl ?_
        refine mj_r_if_eq rfl (fun c21 => ?_) (fun c21 => ?_)
        · iterate 2 (refine mj_r_pure rfl rfl ?_)
          refine mj_r_icmp_ne rfl (fun c22 => ?_) (fun c22 => ?_)
          · iterate 2 (refine mj_r_pure rfl rfl ?_)
            refine mj_r_icmp_ne rfl (fun c23 => ?_) (fun c23 => ?_)
            · iterate 2 (refine mj_r_pure rfl rfl ?_)
              first | exact f1 _ rfl rfl (by unfold ak; clear f1 f0 k1 k2 g0 g1 g2 hop ha hb c1 c2; grind) | exact f0 _ rfl rfl (by unfold ak; clear f1 f0 k1 k2 g0 g1 g2 hop ha hb c1 c2; grind)
            · iterate 2 (refine mj_r_pure rfl rfl ?_)
              refine rr_get rfl rfl rfl ?_
              refine mj_r_pure rfl rfl ?_
              refine rr_get rfl rfl rfl ?_
              refine mj_r_pure rfl rfl ?_
              refine rx_iald rfl rfl (by first | rfl | assumption) (by omega) ?_
              refine rx_iald rfl rfl g1 (by omega) ?_
              iterate 2 (refine mj_r_pure rfl rfl ?_)
              change mj_W _ _ _ [.int (m.1 a &&& 15), .int (nI i)] _ _ _ _ _ _
              refine mj_r_icmp_ne rfl (fun c24 => ?_) (fun c24 => ?_)
              · iterate 2 (refine mj_r_pure rfl rfl ?_)
                first | exact f1 _ rfl rfl (by unfold ak; clear f1 f0 k1 k2 g0 g1 g2 hop ha hb c1 c2; grind) | exact f0 _ rfl rfl (by unfold ak; clear f1 f0 k1 k2 g0 g1 g2 hop ha hb c1 c2; grind)
              · iterate 3 (refine mj_r_pure rfl rfl ?_)
                first | exact f1 _ rfl rfl (by unfold ak; clear f1 f0 k1 k2 g0 g1 g2 hop ha hb c1 c2; grind) | exact f0 _ rfl rfl (by unfold ak; clear f1 f0 k1 k2 g0 g1 g2 hop ha hb c1 c2; grind)
          · iterate 2 (refine mj_r_pure rfl rfl ?_)
            refine rr_get rfl rfl rfl ?_
            refine mj_r_pure rfl rfl ?_
            refine rr_get rfl rfl rfl ?_
            refine mj_r_pure rfl rfl ?_
            refine rx_iald rfl rfl (by first | rfl | assumption) (by omega) ?_
            refine rx_iald rfl rfl g2 (by omega) ?_
            iterate 2 (refine mj_r_pure rfl rfl ?_)
            change mj_W _ _ _ [.int (m.1 b &&& 15), .int (nI i)] _ _ _ _ _ _
            refine mj_r_icmp_eq rfl (fun c25 => ?_) (fun c25 => ?_)
            · iterate 3 (refine mj_r_pure rfl rfl ?_)
              first | exact f1 _ rfl rfl (by unfold ak; clear f1 f0 k1 k2 g0 g1 g2 hop ha hb c1 c2; grind) | exact f0 _ rfl rfl (by unfold ak; clear f1 f0 k1 k2 g0 g1 g2 hop ha hb c1 c2; grind)
            · iterate 2 (refine mj_r_pure rfl rfl ?_)
              refine mj_r_icmp_ne rfl (fun c26 => ?_) (fun c26 => ?_)
              · iterate 2 (refine mj_r_pure rfl rfl ?_)
                first | exact f1 _ rfl rfl (by unfold ak; clear f1 f0 k1 k2 g0 g1 g2 hop ha hb c1 c2; grind) | exact f0 _ rfl rfl (by unfold ak; clear f1 f0 k1 k2 g0 g1 g2 hop ha hb c1 c2; grind)
              · iterate 2 (refine mj_r_pure rfl rfl ?_)
                refine rr_get rfl rfl rfl ?_
                refine mj_r_pure rfl rfl ?_
                refine rr_get rfl rfl rfl ?_
                refine mj_r_pure rfl rfl ?_
                refine rx_iald rfl rfl (by first | rfl | assumption) (by omega) ?_
                refine rx_iald rfl rfl g1 (by omega) ?_
                iterate 2 (refine mj_r_pure rfl rfl ?_)
                change mj_W _ _ _ [.int (m.1 a &&& 15), .int (nI i)] _ _ _ _ _ _
                refine mj_r_icmp_ne rfl (fun c27 => ?_) (fun c27 => ?_)
                · iterate 2 (refine mj_r_pure rfl rfl ?_)
                  first | exact f1 _ rfl rfl (by unfold ak; clear f1 f0 k1 k2 g0 g1 g2 hop ha hb c1 c2; grind) | exact f0 _ rfl rfl (by unfold ak; clear f1 f0 k1 k2 g0 g1 g2 hop ha hb c1 c2; grind)
                · iterate 3 (refine mj_r_pure rfl rfl ?_)
                  first | exact f1 _ rfl rfl (by unfold ak; clear f1 f0 k1 k2 g0 g1 g2 hop ha hb c1 c2; grind) | exact f0 _ rfl rfl (by unfold ak; clear f1 f0 k1 k2 g0 g1 g2 hop ha hb c1 c2; grind)
        · iterate 2 (refine mj_r_pure rfl rfl ?_)
          refine rr_get rfl rfl rfl ?_
          refine mj_r_pure rfl rfl ?_
          refine rx_iald rfl rfl (by first | rfl | assumption) (by omega) ?_
          rw [g2]
          refine mj_r_icmp_eq rfl (fun c28 => ?_) (fun c28 => ?_)
          · iterate 3 (refine mj_r_pure rfl rfl ?_)
            first | exact f1 _ rfl rfl (by unfold ak; clear f1 f0 k1 k2 g0 g1 g2 hop ha hb c1 c2; grind) | exact f0 _ rfl rfl (by unfold ak; clear f1 f0 k1 k2 g0 g1 g2 hop ha hb c1 c2; grind)
          · iterate 2 (refine mj_r_pure rfl rfl ?_)
            refine mj_r_icmp_ne rfl (fun c29 => ?_) (fun c29 => ?_)
            · iterate 2 (refine mj_r_pure rfl rfl ?_)
              refine mj_r_icmp_ne rfl (fun c30 => ?_) (fun c30 => ?_)
              · iterate 2 (refine mj_r_pure rfl rfl ?_)
                first | exact f1 _ rfl rfl (by unfold ak; clear f1 f0 k1 k2 g0 g1 g2 hop ha hb c1 c2; grind) | exact f0 _ rfl rfl (by unfold ak; clear f1 f0 k1 k2 g0 g1 g2 hop ha hb c1 c2; grind)
              · iterate 2 (refine mj_r_pure rfl rfl ?_)
                refine rr_get rfl rfl rfl ?_
                refine mj_r_pure rfl rfl ?_
                refine rr_get rfl rfl rfl ?_
                refine mj_r_pure rfl rfl ?_
                refine rx_iald rfl rfl (by first | rfl | assumption) (by omega) ?_
                refine rx_iald rfl rfl g1 (by omega) ?_
                iterate 2 (refine mj_r_pure rfl rfl ?_)
                change mj_W _ _ _ [.int (m.1 a &&& 15), .int (nI i)] _ _ _ _ _ _
                refine mj_r_icmp_ne rfl (fun c31 => ?_) (fun c31 => ?_)
                · iterate 2 (refine mj_r_pure rfl rfl ?_)
                  first | exact f1 _ rfl rfl (by unfold ak; clear f1 f0 k1 k2 g0 g1 g2 hop ha hb c1 c2; grind) | exact f0 _ rfl rfl (by unfold ak; clear f1 f0 k1 k2 g0 g1 g2 hop ha hb c1 c2; grind)
                · iterate 3 (refine mj_r_pure rfl rfl ?_)
                  first | exact f1 _ rfl rfl (by unfold ak; clear f1 f0 k1 k2 g0 g1 g2 hop ha hb c1 c2; grind) | exact f0 _ rfl rfl (by unfold ak; clear f1 f0 k1 k2 g0 g1 g2 hop ha hb c1 c2; grind)
            · iterate 2 (refine mj_r_pure rfl rfl ?_)
              refine rr_get rfl rfl rfl ?_
              refine mj_r_pure rfl rfl ?_
              refine rr_get rfl rfl rfl ?_
              refine mj_r_pure rfl rfl ?_
              refine rx_iald rfl rfl (by first | rfl | assumption) (by omega) ?_
              refine rx_iald rfl rfl g2 (by omega) ?_
              iterate 2 (refine mj_r_pure rfl rfl ?_)
              change mj_W _ _ _ [.int (m.1 b &&& 15), .int (nI i)] _ _ _ _ _ _
              refine mj_r_icmp_eq rfl (fun c32 => ?_) (fun c32 => ?_)
              · iterate 3 (refine mj_r_pure rfl rfl ?_)
                first | exact f1 _ rfl rfl (by unfold ak; clear f1 f0 k1 k2 g0 g1 g2 hop ha hb c1 c2; grind) | exact f0 _ rfl rfl (by unfold ak; clear f1 f0 k1 k2 g0 g1 g2 hop ha hb c1 c2; grind)
              · iterate 2 (refine mj_r_pure rfl rfl ?_)
                refine mj_r_icmp_ne rfl (fun c33 => ?_) (fun c33 => ?_)
                · iterate 2 (refine mj_r_pure rfl rfl ?_)
                  first | exact f1 _ rfl rfl (by unfold ak; clear f1 f0 k1 k2 g0 g1 g2 hop ha hb c1 c2; grind) | exact f0 _ rfl rfl (by unfold ak; clear f1 f0 k1 k2 g0 g1 g2 hop ha hb c1 c2; grind)
                · iterate 2 (refine mj_r_pure rfl rfl ?_)
                  refine rr_get rfl rfl rfl ?_
                  refine mj_r_pure rfl rfl ?_
                  refine rr_get rfl rfl rfl ?_
                  refine mj_r_pure rfl rfl ?_
                  refine rx_iald rfl rfl (by first | rfl | assumption) (by omega) ?_
                  refine rx_iald rfl rfl g1 (by omega) ?_
                  iterate 2 (refine mj_r_pure rfl rfl ?_)
                  change mj_W _ _ _ [.int (m.1 a &&& 15), .int (nI i)] _ _ _ _ _ _
                  refine mj_r_icmp_ne rfl (fun c34 => ?_) (fun c34 => ?_)
                  · iterate 2 (refine mj_r_pure rfl rfl ?_)
                    first | exact f1 _ rfl rfl (by unfold ak; clear f1 f0 k1 k2 g0 g1 g2 hop ha hb c1 c2; grind) | exact f0 _ rfl rfl (by unfold ak; clear f1 f0 k1 k2 g0 g1 g2 hop ha hb c1 c2; grind)
                  · iterate 3 (refine mj_r_pure rfl rfl ?_)
                    first | exact f1 _ rfl rfl (by unfold ak; clear f1 f0 k1 k2 g0 g1 g2 hop ha hb c1 c2; grind) | exact f0 _ rfl rfl (by unfold ak; clear f1 f0 k1 k2 g0 g1 g2 hop ha hb c1 c2; grind)
    · iterate 2 (refine mj_r_pure rfl rfl ?_)
      refine mj_r_icmp_eq rfl (fun c35 => ?_) (fun c35 => ?_)
      · iterate 4 (refine mj_r_pure rfl rfl ?_)
        refine rr_get rfl rfl rfl ?_
        refine mj_r_pure rfl rfl ?_
        refine rx_iald rfl rfl (by first | rfl | assumption) (by omega) ?_
        rw [g1]
        refine mj_r_icmp_eq rfl (fun c36 => ?_) (fun c36 => ?_)
        · iterate 3 (refine mj_r_pure rfl rfl ?_)
          first | exact f1 _ rfl rfl (by unfold ak; clear f1 f0 k1 k2 g0 g1 g2 hop ha hb c1 c2; grind) | exact f0 _ rfl rfl (by unfold ak; clear f1 f0 k1 k2 g0 g1 g2 hop ha hb c1 c2; grind)
        · refine mj_r_pure rfl rfl ?_
          refine mj_r_if_eq rfl (fun c37 => ?_) (fun c37 => ?_)
          · iterate 2 (refine mj_r_pure rfl rfl ?_)
            refine mj_r_icmp_ne rfl (fun c38 => ?_) (fun c38 => ?_)
            · iterate 2 (refine mj_r_pure rfl rfl ?_)
              refine mj_r_icmp_ne rfl (fun c39 => ?_) (fun c39 => ?_)
              · iterate 2 (refine mj_r_pure rfl rfl ?_)
                first | exact f1 _ rfl rfl (by unfold ak; clear f1 f0 k1 k2 g0 g1 g2 hop ha hb c1 c2; grind) | exact f0 _ rfl rfl (by unfold ak; clear f1 f0 k1 k2 g0 g1 g2 hop ha hb c1 c2; grind)
              · iterate 2 (refine mj_r_pure rfl rfl ?_)
                refine rr_get rfl rfl rfl ?_
                refine mj_r_pure rfl rfl ?_
                refine rr_get rfl rfl rfl ?_
                refine mj_r_pure rfl rfl ?_
                refine rx_iald rfl rfl (by first | rfl | assumption) (by omega) ?_
                refine rx_iald rfl rfl g1 (by omega) ?_
                iterate 2 (refine mj_r_pure rfl rfl ?_)
                change mj_W _ _ _ [.int (m.1 a &&& 15), .int (nI i)] _ _ _ _ _ _
                refine mj_r_icmp_ne rfl (fun c40 => ?_) (fun c40 => ?_)
                · iterate 2 (refine mj_r_pure rfl rfl ?_)
                  first | exact f1 _ rfl rfl (by unfold ak; clear f1 f0 k1 k2 g0 g1 g2 hop ha hb c1 c2; grind) | exact f0 _ rfl rfl (by unfold ak; clear f1 f0 k1 k2 g0 g1 g2 hop ha hb c1 c2; grind)
                · iterate 3 (refine mj_r_pure rfl rfl ?_)
                  first | exact f1 _ rfl rfl (by unfold ak; clear f1 f0 k1 k2 g0 g1 g2 hop ha hb c1 c2; grind) | exact f0 _ rfl rfl (by unfold ak; clear f1 f0 k1 k2 g0 g1 g2 hop ha hb c1 c2; grind)
            · iterate 2 (refine mj_r_pure rfl rfl ?_)
              refine rr_get rfl rfl rfl ?_
              refine mj_r_pure rfl rfl ?_
              refine rr_get rfl rfl rfl ?_
              refine mj_r_pure rfl rfl ?_
              refine rx_iald rfl rfl (by first | rfl | assumption) (by omega) ?_
              refine rx_iald rfl rfl g2 (by omega) ?_
              iterate 2 (refine mj_r_pure rfl rfl ?_)
              change mj_W _ _ _ [.int (m.1 b &&& 15), .int (nI i)] _ _ _ _ _ _
              refine mj_r_icmp_eq rfl (fun c41 => ?_) (fun c41 => ?_)
              · iterate 3 (refine mj_r_pure rfl rfl ?_)
                first | exact f1 _ rfl rfl (by unfold ak; clear f1 f0 k1 k2 g0 g1 g2 hop ha hb c1 c2; grind) | exact f0 _ rfl rfl (by unfold ak; clear f1 f0 k1 k2 g0 g1 g2 hop ha hb c1 c2; grind)
              · iterate 2 (refine mj_r_pure rfl rfl ?_)
                refine mj_r_icmp_ne rfl (fun c42 => ?_) (fun c42 => ?_)
                · iterate 2 (refine mj_r_pure rfl rfl ?_)
                  first | exact f1 _ rfl rfl (by unfold ak; clear f1 f0 k1 k2 g0 g1 g2 hop ha hb c1 c2; grind) | exact f0 _ rfl rfl (by unfold ak; clear f1 f0 k1 k2 g0 g1 g2 hop ha hb c1 c2; grind)
                · iterate 2 (refine mj_r_pure rfl rfl ?_)
                  refine rr_get rfl rfl rfl ?_
                  refine mj_r_pure rfl rfl ?_
                  refine rr_get rfl rfl rfl ?_
                  refine mj_r_pure rfl rfl ?_
                  refine rx_iald rfl rfl (by first | rfl | assumption) (by omega) ?_
                  refine rx_iald rfl rfl g1 (by omega) ?_
                  iterate 2 (refine mj_r_pure rfl rfl ?_)
                  change mj_W _ _ _ [.int (m.1 a &&& 15), .int (nI i)] _ _ _ _ _ _
                  refine mj_r_icmp_ne rfl (fun c43 => ?_) (fun c43 => ?_)
                  · iterate 2 (refine mj_r_pure rfl rfl ?_)
                    first | exact f1 _ rfl rfl (by unfold ak; clear f1 f0 k1 k2 g0 g1 g2 hop ha hb c1 c2; grind) | exact f0 _ rfl rfl (by unfold ak; clear f1 f0 k1 k2 g0 g1 g2 hop ha hb c1 c2; grind)
                  · iterate 3 (refine mj_r_pure rfl rfl ?_)
                    first | exact f1 _ rfl rfl (by unfold ak; clear f1 f0 k1 k2 g0 g1 g2 hop ha hb c1 c2; grind) | exact f0 _ rfl rfl (by unfold ak; clear f1 f0 k1 k2 g0 g1 g2 hop ha hb c1 c2; grind)
          · iterate 2 (refine mj_r_pure rfl rfl ?_)
            refine rr_get rfl rfl rfl ?_
            refine mj_r_pure rfl rfl ?_
            refine rx_iald rfl rfl (by first | rfl | assumption) (by omega) ?_
            rw [g2]
            refine mj_r_icmp_eq rfl (fun c44 => ?_) (fun c44 => ?_)
            · iterate 3 (refine mj_r_pure rfl rfl ?_)
              first | exact f1 _ rfl rfl (by unfold ak; clear f1 f0 k1 k2 g0 g1 g2 hop ha hb c1 c2; grind) | exact f0 _ rfl rfl (by unfold ak; clear f1 f0 k1 k2 g0 g1 g2 hop ha hb c1 c2; grind)
            · iterate 2 (refine mj_r_pure rfl rfl ?_)
              refine mj_r_icmp_ne rfl (fun c45 => ?_) (fun c45 => ?_)
              · iterate 2 (refine mj_r_pure rfl rfl ?_)
                refine mj_r_icmp_ne rfl (fun c46 => ?_) (fun c46 => ?_)
                · iterate 2 (refine mj_r_pure rfl rfl ?_)
                  first | exact f1 _ rfl rfl (by unfold ak; clear f1 f0 k1 k2 g0 g1 g2 hop ha hb c1 c2; grind) | exact f0 _ rfl rfl (by unfold ak; clear f1 f0 k1 k2 g0 g1 g2 hop ha hb c1 c2; grind)
                · iterate 2 (refine mj_r_pure rfl rfl ?_)
                  refine rr_get rfl rfl rfl ?_
                  refine mj_r_pure rfl rfl ?_
                  refine rr_get rfl rfl rfl ?_
                  refine mj_r_pure rfl rfl ?_
                  refine rx_iald rfl rfl (by first | rfl | assumption) (by omega) ?_
                  refine rx_iald rfl rfl g1 (by omega) ?_
                  iterate 2 (refine mj_r_pure rfl rfl ?_)
                  change mj_W _ _ _ [.int (m.1 a &&& 15), .int (nI i)] _ _ _ _ _ _
                  refine mj_r_icmp_ne rfl (fun c47 => ?_) (fun c47 => ?_)
                  · iterate 2 (refine mj_r_pure rfl rfl ?_)
                    first | exact f1 _ rfl rfl (by unfold ak; clear f1 f0 k1 k2 g0 g1 g2 hop ha hb c1 c2; grind) | exact f0 _ rfl rfl (by unfold ak; clear f1 f0 k1 k2 g0 g1 g2 hop ha hb c1 c2; grind)
                  · iterate 3 (refine mj_r_pure rfl rfl ?_)
                    first | exact f1 _ rfl rfl (by unfold ak; clear f1 f0 k1 k2 g0 g1 g2 hop ha hb c1 c2; grind) | exact f0 _ rfl rfl (by unfold ak; clear f1 f0 k1 k2 g0 g1 g2 hop ha hb c1 c2; grind)
              · iterate 2 (refine mj_r_pure rfl rfl ?_)
                refine rr_get rfl rfl rfl ?_
                refine mj_r_pure rfl rfl ?_
                refine rr_get rfl rfl rfl ?_
                refine mj_r_pure rfl rfl ?_
                refine rx_iald rfl rfl (by first | rfl | assumption) (by omega) ?_
                refine rx_iald rfl rfl g2 (by omega) ?_
                iterate 2 (refine mj_r_pure rfl rfl ?_)
                change mj_W _ _ _ [.int (m.1 b &&& 15), .int (nI i)] _ _ _ _ _ _
                refine mj_r_icmp_eq rfl (fun c48 => ?_) (fun c48 => ?_)
                · iterate 3 (refine mj_r_pure rfl rfl ?_)
                  first | exact f1 _ rfl rfl (by unfold ak; clear f1 f0 k1 k2 g0 g1 g2 hop ha hb c1 c2; grind) | exact f0 _ rfl rfl (by unfold ak; clear f1 f0 k1 k2 g0 g1 g2 hop ha hb c1 c2; grind)
                · iterate 2 (refine mj_r_pure rfl rfl ?_)
                  refine mj_r_icmp_ne rfl (fun c49 => ?_) (fun c49 => ?_)
                  · iterate 2 (refine mj_r_pure rfl rfl ?_)
                    first | exact f1 _ rfl rfl (by unfold ak; clear f1 f0 k1 k2 g0 g1 g2 hop ha hb c1 c2; grind) | exact f0 _ rfl rfl (by unfold ak; clear f1 f0 k1 k2 g0 g1 g2 hop ha hb c1 c2; grind)
                  · iterate 2 (refine mj_r_pure rfl rfl ?_)
                    refine rr_get rfl rfl rfl ?_
                    refine mj_r_pure rfl rfl ?_
                    refine rr_get rfl rfl rfl ?_
                    refine mj_r_pure rfl rfl ?_
                    refine rx_iald rfl rfl (by first | rfl | assumption) (by omega) ?_
                    refine rx_iald rfl rfl g1 (by omega) ?_
                    iterate 2 (refine mj_r_pure rfl rfl ?_)
                    change mj_W _ _ _ [.int (m.1 a &&& 15), .int (nI i)] _ _ _ _ _ _
                    refine mj_r_icmp_ne rfl (fun c50 => ?_) (fun c50 => ?_)
                    · iterate 2 (refine mj_r_pure rfl rfl ?_)
                      first | exact f1 _ rfl rfl (by unfold ak; clear f1 f0 k1 k2 g0 g1 g2 hop ha hb c1 c2; grind) | exact f0 _ rfl rfl (by unfold ak; clear f1 f0 k1 k2 g0 g1 g2 hop ha hb c1 c2; grind)
                    · iterate 3 (refine mj_r_pure rfl rfl ?_)
                      first | exact f1 _ rfl rfl (by unfold ak; clear f1 f0 k1 k2 g0 g1 g2 hop ha hb c1 c2; grind) | exact f0 _ rfl rfl (by unfold ak; clear f1 f0 k1 k2 g0 g1 g2 hop ha hb c1 c2; grind)
      · iterate 5 (refine mj_r_pure rfl rfl ?_)
        refine rr_get rfl rfl rfl ?_
        refine mj_r_pure rfl rfl ?_
        refine rx_iald rfl rfl (by first | rfl | assumption) (by omega) ?_
        rw [g1]
        refine mj_r_icmp_eq rfl (fun c51 => ?_) (fun c51 => ?_)
        · iterate 3 (refine mj_r_pure rfl rfl ?_)
          first | exact f1 _ rfl rfl (by unfold ak; clear f1 f0 k1 k2 g0 g1 g2 hop ha hb c1 c2; grind) | exact f0 _ rfl rfl (by unfold ak; clear f1 f0 k1 k2 g0 g1 g2 hop ha hb c1 c2; grind)
        · refine mj_r_pure rfl rfl ?_
          refine mj_r_if_eq rfl (fun c52 => ?_) (fun c52 => ?_)
          · iterate 2 (refine mj_r_pure rfl rfl ?_)
            refine mj_r_icmp_ne rfl (fun c53 => ?_) (fun c53 => ?_)
            · iterate 2 (refine mj_r_pure rfl rfl ?_)
              refine mj_r_icmp_ne rfl (fun c54 => ?_) (fun c54 => ?_)
              · iterate 2 (refine mj_r_pure rfl rfl ?_)
                first | exact f1 _ rfl rfl (by unfold ak; clear f1 f0 k1 k2 g0 g1 g2 hop ha hb c1 c2; grind) | exact f0 _ rfl rfl (by unfold ak; clear f1 f0 k1 k2 g0 g1 g2 hop ha hb c1 c2; grind)
              · iterate 2 (refine mj_r_pure rfl rfl ?_)
                refine rr_get rfl rfl rfl ?_
                refine mj_r_pure rfl rfl ?_
                refine rr_get rfl rfl rfl ?_
                refine mj_r_pure rfl rfl ?_
                refine rx_iald rfl rfl (by first | rfl | assumption) (by omega) ?_
                refine rx_iald rfl rfl g1 (by omega) ?_
                iterate 2 (refine mj_r_pure rfl rfl ?_)
                change mj_W _ _ _ [.int (m.1 a &&& 15), .int (nI i)] _ _ _ _ _ _
                refine mj_r_icmp_ne rfl (fun c55 => ?_) (fun c55 => ?_)
                · iterate 2 (refine mj_r_pure rfl rfl ?_)
                  first | exact f1 _ rfl rfl (by unfold ak; clear f1 f0 k1 k2 g0 g1 g2 hop ha hb c1 c2; grind) | exact f0 _ rfl rfl (by unfold ak; clear f1 f0 k1 k2 g0 g1 g2 hop ha hb c1 c2; grind)
                · iterate 3 (refine mj_r_pure rfl rfl ?_)
                  first | exact f1 _ rfl rfl (by unfold ak; clear f1 f0 k1 k2 g0 g1 g2 hop ha hb c1 c2; grind) | exact f0 _ rfl rfl (by unfold ak; clear f1 f0 k1 k2 g0 g1 g2 hop ha hb c1 c2; grind)
            · iterate 2 (refine mj_r_pure rfl rfl ?_)
              refine rr_get rfl rfl rfl ?_
              refine mj_r_pure rfl rfl ?_
              refine rr_get rfl rfl rfl ?_
              refine mj_r_pure rfl rfl ?_
              refine rx_iald rfl rfl (by first | rfl | assumption) (by omega) ?_
              refine rx_iald rfl rfl g2 (by omega) ?_
              iterate 2 (refine mj_r_pure rfl rfl ?_)
              change mj_W _ _ _ [.int (m.1 b &&& 15), .int (nI i)] _ _ _ _ _ _
              refine mj_r_icmp_eq rfl (fun c56 => ?_) (fun c56 => ?_)
              · iterate 3 (refine mj_r_pure rfl rfl ?_)
                first | exact f1 _ rfl rfl (by unfold ak; clear f1 f0 k1 k2 g0 g1 g2 hop ha hb c1 c2; grind) | exact f0 _ rfl rfl (by unfold ak; clear f1 f0 k1 k2 g0 g1 g2 hop ha hb c1 c2; grind)
              · iterate 2 (refine mj_r_pure rfl rfl ?_)
                refine mj_r_icmp_ne rfl (fun c57 => ?_) (fun c57 => ?_)
                · iterate 2 (refine mj_r_pure rfl rfl ?_)
                  first | exact f1 _ rfl rfl (by unfold ak; clear f1 f0 k1 k2 g0 g1 g2 hop ha hb c1 c2; grind) | exact f0 _ rfl rfl (by unfold ak; clear f1 f0 k1 k2 g0 g1 g2 hop ha hb c1 c2; grind)
                · iterate 2 (refine mj_r_pure rfl rfl ?_)
                  refine rr_get rfl rfl rfl ?_
                  refine mj_r_pure rfl rfl ?_
                  refine rr_get rfl rfl rfl ?_
                  refine mj_r_pure rfl rfl ?_
                  refine rx_iald rfl rfl (by first | rfl | assumption) (by omega) ?_
                  refine rx_iald rfl rfl g1 (by omega) ?_
                  iterate 2 (refine mj_r_pure rfl rfl ?_)
                  change mj_W _ _ _ [.int (m.1 a &&& 15), .int (nI i)] _ _ _ _ _ _
                  refine mj_r_icmp_ne rfl (fun c58 => ?_) (fun c58 => ?_)
                  · iterate 2 (refine mj_r_pure rfl rfl ?_)
                    first | exact f1 _ rfl rfl (by unfold ak; clear f1 f0 k1 k2 g0 g1 g2 hop ha hb c1 c2; grind) | exact f0 _ rfl rfl (by unfold ak; clear f1 f0 k1 k2 g0 g1 g2 hop ha hb c1 c2; grind)
                  · iterate 3 (refine mj_r_pure rfl rfl ?_)
                    first | exact f1 _ rfl rfl (by unfold ak; clear f1 f0 k1 k2 g0 g1 g2 hop ha hb c1 c2; grind) | exact f0 _ rfl rfl (by unfold ak; clear f1 f0 k1 k2 g0 g1 g2 hop ha hb c1 c2; grind)
          · iterate 2 (refine mj_r_pure rfl rfl ?_)
            refine rr_get rfl rfl rfl ?_
            refine mj_r_pure rfl rfl ?_
            refine rx_iald rfl rfl (by first | rfl | assumption) (by omega) ?_
            rw [g2]
            refine mj_r_icmp_eq rfl (fun c59 => ?_) (fun c59 => ?_)
            · iterate 3 (refine mj_r_pure rfl rfl ?_)
              first | exact f1 _ rfl rfl (by unfold ak; clear f1 f0 k1 k2 g0 g1 g2 hop ha hb c1 c2; grind) | exact f0 _ rfl rfl (by unfold ak; clear f1 f0 k1 k2 g0 g1 g2 hop ha hb c1 c2; grind)
            · iterate 2 (refine mj_r_pure rfl rfl ?_)
              refine mj_r_icmp_ne rfl (fun c60 => ?_) (fun c60 => ?_)
              · iterate 2 (refine mj_r_pure rfl rfl ?_)
                refine mj_r_icmp_ne rfl (fun c61 => ?_) (fun c61 => ?_)
                · iterate 2 (refine mj_r_pure rfl rfl ?_)
                  first | exact f1 _ rfl rfl (by unfold ak; clear f1 f0 k1 k2 g0 g1 g2 hop ha hb c1 c2; grind) | exact f0 _ rfl rfl (by unfold ak; clear f1 f0 k1 k2 g0 g1 g2 hop ha hb c1 c2; grind)
                · iterate 2 (refine mj_r_pure rfl rfl ?_)
                  refine rr_get rfl rfl rfl ?_
                  refine mj_r_pure rfl rfl ?_
                  refine rr_get rfl rfl rfl ?_
                  refine mj_r_pure rfl rfl ?_
                  refine rx_iald rfl rfl (by first | rfl | assumption) (by omega) ?_
                  refine rx_iald rfl rfl g1 (by omega) ?_
                  iterate 2 (refine mj_r_pure rfl rfl ?_)
                  change mj_W _ _ _ [.int (m.1 a &&& 15), .int (nI i)] _ _ _ _ _ _
                  refine mj_r_icmp_ne rfl (fun c62 => ?_) (fun c62 => ?_)
                  · iterate 2 (refine mj_r_pure rfl rfl ?_)
                    first | exact f1 _ rfl rfl (by unfold ak; clear f1 f0 k1 k2 g0 g1 g2 hop ha hb c1 c2; grind) | exact f0 _ rfl rfl (by unfold ak; clear f1 f0 k1 k2 g0 g1 g2 hop ha hb c1 c2; grind)
                  · iterate 3 (refine mj_r_pure rfl rfl ?_)
                    first | exact f1 _ rfl rfl (by unfold ak; clear f1 f0 k1 k2 g0 g1 g2 hop ha hb c1 c2; grind) | exact f0 _ rfl rfl (by unfold ak; clear f1 f0 k1 k2 g0 g1 g2 hop ha hb c1 c2; grind)
              · iterate 2 (refine mj_r_pure rfl rfl ?_)
                refine rr_get rfl rfl rfl ?_
                refine mj_r_pure rfl rfl ?_
                refine rr_get rfl rfl rfl ?_
                refine mj_r_pure rfl rfl ?_
                refine rx_iald rfl rfl (by first | rfl | assumption) (by omega) ?_
                refine rx_iald rfl rfl g2 (by omega) ?_
                iterate 2 (refine mj_r_pure rfl rfl ?_)
                change mj_W _ _ _ [.int (m.1 b &&& 15), .int (nI i)] _ _ _ _ _ _
                refine mj_r_icmp_eq rfl (fun c63 => ?_) (fun c63 => ?_)
                · iterate 3 (refine mj_r_pure rfl rfl ?_)
                  first | exact f1 _ rfl rfl (by unfold ak; clear f1 f0 k1 k2 g0 g1 g2 hop ha hb c1 c2; grind) | exact f0 _ rfl rfl (by unfold ak; clear f1 f0 k1 k2 g0 g1 g2 hop ha hb c1 c2; grind)
                · iterate 2 (refine mj_r_pure rfl rfl ?_)
                  refine mj_r_icmp_ne rfl (fun c64 => ?_) (fun c64 => ?_)
                  · iterate 2 (refine mj_r_pure rfl rfl ?_)
                    first | exact f1 _ rfl rfl (by unfold ak; clear f1 f0 k1 k2 g0 g1 g2 hop ha hb c1 c2; grind) | exact f0 _ rfl rfl (by unfold ak; clear f1 f0 k1 k2 g0 g1 g2 hop ha hb c1 c2; grind)
                  · iterate 2 (refine mj_r_pure rfl rfl ?_)
                    refine rr_get rfl rfl rfl ?_
                    refine mj_r_pure rfl rfl ?_
                    refine rr_get rfl rfl rfl ?_
                    refine mj_r_pure rfl rfl ?_
                    refine rx_iald rfl rfl (by first | rfl | assumption) (by omega) ?_
                    refine rx_iald rfl rfl g1 (by omega) ?_
                    iterate 2 (refine mj_r_pure rfl rfl ?_)
                    change mj_W _ _ _ [.int (m.1 a &&& 15), .int (nI i)] _ _ _ _ _ _
                    refine mj_r_icmp_ne rfl (fun c65 => ?_) (fun c65 => ?_)
                    · iterate 2 (refine mj_r_pure rfl rfl ?_)
                      first | exact f1 _ rfl rfl (by unfold ak; clear f1 f0 k1 k2 g0 g1 g2 hop ha hb c1 c2; grind) | exact f0 _ rfl rfl (by unfold ak; clear f1 f0 k1 k2 g0 g1 g2 hop ha hb c1 c2; grind)
                    · iterate 3 (refine mj_r_pure rfl rfl ?_)
                      first | exact f1 _ rfl rfl (by unfold ak; clear f1 f0 k1 k2 g0 g1 g2 hop ha hb c1 c2; grind) | exact f0 _ rfl rfl (by unfold ak; clear f1 f0 k1 k2 g0 g1 g2 hop ha hb c1 c2; grind)
theorem ak_ask {P : mP} {f : Nat → Int32} {k i a b : Nat} {op : Int32} (hop : P.1 k = op) (ha : P.2.1 k = nI a) (ha2 : a < 16) (hb : P.2.2.1 k = nI b) (hb2 : b < 16) : m_ask P f k i = true ↔ ak op (nI a) (nI b) (f a &&& 15) (f b &&& 15) (nI i) := by
  have eA : m_va P f k = f a := by rw [m_va, ha, nI_clamp (by omega)]
  have eB : m_vb P f k = f b := by rw [m_vb, hb, nI_clamp (by omega)]
  unfold m_ask ak
  rw [hop, ha, hb, eA, eB]
  simp only [Bool.or_eq_true, Bool.and_eq_true, decide_eq_true_eq]
/-- the arrays of programs stay -/
theorem sp_w1_kp (f : Nat → Int32) (ask : Nat → Bool) (T : rf_S) (i : Nat) : ∀ q, q ∉ [36, 37, 38] → (sp_w1 f ask T i).1 q = T.1 q := by
  intro q hq
  unfold sp_w1
  split
  · unfold sp_cell1
    have h1 : Nat.beq q 36 = false := rf_beq_ne (fun e => hq (by rw [e]; decide))
    have h2 : Nat.beq q 37 = false := rf_beq_ne (fun e => hq (by rw [e]; decide))
    have h3 : Nat.beq q 38 = false := rf_beq_ne (fun e => hq (by rw [e]; decide))
    show cond (Nat.beq q 36) _ (cond (Nat.beq q 38) _ (cond (Nat.beq q 37) _ (T.1 q))) = _
    rw [h1, h2, h3]
    rfl
  · rfl
theorem sp_wl_kp (f : Nat → Int32) (ask : Nat → Bool) (T : rf_S) (i : Nat) : ∀ q, q ∉ [36, 37, 38] → (sp_wl f ask T i).1 q = T.1 q := by
  induction i with
  | zero => intro q _; rfl
  | succ i ih => intro q hq; exact (sp_w1_kp f ask _ i q hq).trans (ih q hq)
set_option maxRecDepth 20000 in
set_option maxHeartbeats 4000000 in
theorem rl_wloop {Q : mj_post} {nx kk bb a b : Nat} {n op : Int32} {T0 : rf_S} {m : mS} {f : Nat → Int32} {nd : Nat → Int64} {P : mP} {j : Nat} (hk : kk < 216) (hop : T0.1 0 kk = op) (ha : T0.1 1 kk = nI a) (ha2 : a < 16) (hb : T0.1 2 kk = nI b) (hb2 : b < 16) (hPo : P.1 j = op) (hPa : P.2.1 j = nI a) (hPb : P.2.2.1 j = nI b) (hm : ∀ i, i < 16 → m.1 i = f i) (hnd : ∀ j, 1 ≤ j → j < 32 → nd j = t_n f j)
    (hQ : Q.2 (some (.int ((sp_wl f (m_ask P f j) T0 16).1 36 0))) (rf_h (sX (sp_wl f (m_ask P f j) T0 16) m nd)) mj_0 nx) : ∀ (d i c : Nat) (z : Int32), i + d = 16 → w_inv (sp_wl f (m_ask P f j) T0 i) i c → mj_W me_Ref_write 65 [(0, .ref 21), (1, .int (nI bb)), (2, .int n), (3, .int 1), (4, .int z), (5, .int (nI kk)), (6, .int (nI i))] [] (rf_h (sX (sp_wl f (m_ask P f j) T0 i) m nd)) mj_0 nx 0 0 Q := by
  intro d
  induction d with
  | zero =>
    intro i c z hi hw
    have e : i = 16 := by omega
    subst e
    iterate 2 (refine mj_r_pure rfl rfl ?_)
    refine mj_r_icmp_ge rfl (fun y1 => ?_) (fun y1 => absurd y1 (fun q => q (nI_le (a := 16) (b := 16) (Nat.le_refl _) (by omega))))
    refine mj_r_pure rfl rfl ?_
    refine rr_get rfl rfl rfl ?_
    exact mj_r_iret rfl rfl rfl (hQ)
  | succ d ih =>
    intro i c z hi hw
    have hi16 : i < 16 := by omega
    have kpT := sp_wl_kp f (m_ask P f j) T0 i
    have iff1 := ak_ask (i := i) (f := f) hPo hPa ha2 hPb hb2
    obtain ⟨c', hw'⟩ := hw.next (f := f) (ask := m_ask P f j)
    have e := fun z => ih (i + 1) c' z (by omega) hw'
    unfold sp_wl at e
    generalize sp_wl f (m_ask P f j) T0 i = T at e hw kpT ⊢
    refine rl_wbody (op := op) hi16 hk (by rw [kpT 0 (by decide)]; exact hop) (by rw [kpT 1 (by decide)]; exact ha) ha2 (by rw [kpT 2 (by decide)]; exact hb) hb2 (fun hak lv hlv => ?_) (fun hak lv hlv => ?_)
    · rw [hm a ha2, hm b hb2] at hak
      refine rl_wcell hi16 hm hnd hw hlv (fun z => ?_)
      have e1 : sp_w1 f (fun _ => true) T i = sp_w1 f (m_ask P f j) T i := by unfold sp_w1; rw [iff1.mpr hak]
      rw [e1]
      exact e z
    · rw [hm a ha2, hm b hb2] at hak
      refine mj_W.fewer _ hlv ?_
      have e1 : sp_w1 f (m_ask P f j) T i = T := by
        unfold sp_w1
        exact if_neg (fun q => hak (iff1.mp q.1))
      rw [e1] at e
      iterate 2 (refine mj_r_pure rfl rfl ?_)
      rw [nI_1]; exact e z
set_option maxRecDepth 20000 in
set_option maxHeartbeats 4000000 in
theorem K_Ref_write_open (hrot : ∀ a c : Int32, sp_rotR a c = sp_rot a c) (S : rf_S) (b s : Int32) (nx nb : Nat) (hS : wf_P S) (hnb : S.1 5 0 = nI nb) (h8 : nb ≤ 8) : rKx me_Ref_write [.int b, .int s] S nx (sp_write S b s) := by
  refine mj_K.of ok_Ref_write ck_Ref_write (Nat.le_of_ble_eq_true rfl) ?_
  by_cases a1 : isN b (S.1 5 0)
  · obtain ⟨bb, hbb, rfl⟩ := isN_nat (n := nb) (by omega) (by rw [← hnb]; exact a1)
    have eb : (nI bb).toNatClampNeg = bb := nI_clamp (by omega)
    by_cases a2 : 0 ≤ s ∧ s < S.1 8 bb
    · obtain ⟨n, hn, rfl⟩ := le_nat a2.1
      have en : (nI n).toNatClampNeg = n := nI_clamp hn
      have esw : sp_write S (nI bb) (nI n) = ((sp_write1 S bb n).1 36 0, sp_write1 S bb n) := by
        rw [sp_write, eb, en, if_pos ⟨a1, a2⟩]
      rw [esw]
      have hle : nI n ≤ S.1 8 bb := by have := a2.2; rw [Int32.lt_iff_toInt_lt] at this; rw [Int32.le_iff_toInt_le]; omega
      obtain ⟨ln, hln, hln2⟩ := hS.2.2 bb
      iterate 2 (refine mj_r_pure rfl rfl ?_)
      refine mj_r_callV (ci := 10) (kc := 0) (ks := 0) rfl li_Ref_134 ck_Ref_isBatch iv_Ref_isBatch (by decide) rfl rfl (K_Ref_isBatch S _ nx) rfl rfl (Nat.le_of_ble_eq_true rfl) ?_
      rintro _ _ _ ⟨rfl, rfl, rfl⟩ _
      rw [bI_t a1]
      refine mj_r_if_eq rfl (fun c1 => absurd c1 (by decide)) (fun c1 => ?_)
      refine mj_r_pure rfl rfl ?_
      refine mj_r_if_lt rfl (fun c2 => absurd c2 (nI_pos hn)) (fun c2 => ?_)
      iterate 2 (refine mj_r_pure rfl rfl ?_)
      refine rr_get rfl rfl rfl ?_
      refine mj_r_pure rfl rfl ?_
      refine rx_iald rfl rfl (by first | rfl | assumption) (by omega) ?_
      refine mj_r_icmp_lt rfl (fun c3 => ?_) (fun c3 => absurd c3 (fun q => q a2.2))
      iterate 3 (refine mj_r_pure rfl rfl ?_)
      refine mj_r_callV (ci := 10) (kc := 0) (ks := 0) rfl li_Ref_151 ck_Ref_walk iv_Ref_walk (by decide) rfl rfl ((K_Ref_walk_t_open hrot S bb n nx nb hS hnb h8 hbb hn hle)) rfl rfl (Nat.le_of_ble_eq_true rfl) ?_
      rintro _ _ _ ⟨rfl, rfl, m, rfl, hm⟩ _
      iterate 2 (refine mj_r_pure rfl rfl ?_)
      refine mj_r_callV (ci := 10) (kc := 0) (ks := 0) rfl li_Ref_148 ck_Ref_makeTree iv_Ref_makeTree (by decide) rfl rfl (K_Ref_makeTree (sM S m) nx) rfl rfl (Nat.le_of_ble_eq_true rfl) ?_
      rintro _ _ _ ⟨rfl, rfl, nd, rfl, hnd0⟩ _
      have hnd : ∀ j, 1 ≤ j → j < 32 → nd j = t_n (sp_M S bb n).1 j := fun j h1 h2 => (hnd0 j h1 h2).trans (t_n_ag hm.1 h1 h2)
      iterate 2 (refine mj_r_pure rfl rfl ?_)
      refine rr_get rfl rfl rfl ?_
      refine mj_r_pure rfl rfl ?_
      refine rr_get rfl rfl rfl ?_
      refine mj_r_pure rfl rfl ?_
      refine rx_lald rfl rfl (show (1 : Int32) = nI 1 from rfl) (by omega) ?_
      change mj_W _ _ _ [.long (nd 1), .int m.2.1, .ref 21] (rf_h (sX S m nd)) _ _ _ _ _
      rw [hnd 1 (by omega) (by omega), hm.2.1]
      refine mj_r_callV (ci := 10) (kc := 0) (ks := 0) rfl li_Ref_213 ck_Ref_paper iv_Ref_paper (by decide) rfl rfl (K_Ref_paper (sX S m nd) _ _ nx) rfl rfl (Nat.le_of_ble_eq_true rfl) ?_
      rintro _ _ _ ⟨rfl, rfl, rfl⟩ _
      rw [sp_paper_X]
      iterate 4 (refine mj_r_pure rfl rfl ?_)
      refine rr_get rfl rfl rfl ?_
      refine mj_r_callV (ci := 10) (kc := 0) (ks := 0) rfl li_Ref_117 ck_Ref_at iv_Ref_at (by decide) rfl rfl (K_Ref_at (sX (sp_paper S (sp_M S bb n).2.1 (t_n (sp_M S bb n).1 1)) m nd) bb _ nx (by omega)) rfl rfl (Nat.le_of_ble_eq_true rfl) ?_
      rintro _ _ _ ⟨rfl, rfl, rfl⟩ _
      change mj_W _ _ _ [.int (sp_at S bb m.2.1)] _ _ _ _ _ _
      rw [hm.2.1]
      iterate 3 (refine mj_r_pure rfl rfl ?_)
      skip
      by_cases c : isN (sp_M S bb n).2.1 (S.1 6 bb)
      · obtain ⟨j, hj, hj2⟩ := isN_nat (n := ln) (by omega) (by rw [← hln2]; exact c)
        have eat : sp_at S bb (sp_M S bb n).2.1 = nI (24 * bb + j) := by rw [sp_at, if_pos c, hj2, nI_add]
        obtain ⟨a0, ha, ha2⟩ := hS.1 (24 * bb + j)
        obtain ⟨b0, hb3, hb2⟩ := hS.2.1 (24 * bb + j)
        have ew : sp_write1 S bb n = sp_wl (sp_M S bb n).1 (m_ask (sp_P S bb) (sp_M S bb n).1 j) (sp_paper S (sp_M S bb n).2.1 (t_n (sp_M S bb n).1 1)) 16 := by
          rw [sp_write1, if_pos c, hj2, nI_clamp (by omega)]
        rw [eat, ew]
        refine mj_W.fewer [0, 1, 2, 3, 4, 5, 6] rfl ?_
        refine rl_wloop (P := sp_P S bb) (kk := 24 * bb + j) (T0 := sp_paper S (sp_M S bb n).2.1 (t_n (sp_M S bb n).1 1)) (by omega) rfl ha2 ha hb2 hb3 rfl ha2 hb2 hm.1 hnd ?_ 16 0 0 _ rfl ⟨rfl, by omega, by omega, fun q hq => absurd hq (by omega)⟩
        exact ⟨rfl, rfl, m, nd, rfl⟩
      · have eat : sp_at S bb (sp_M S bb n).2.1 = -1 := by rw [sp_at, if_neg c]
        have ew : sp_write1 S bb n = sp_paper S (sp_M S bb n).2.1 (t_n (sp_M S bb n).1 1) := by rw [sp_write1, if_neg c]
        rw [eat, ew]
        iterate 2 (refine mj_r_pure rfl rfl ?_)
        refine mj_r_icmp_ge rfl (fun y1 => absurd y1 (by decide +kernel)) (fun y1 => ?_)
        refine mj_r_pure rfl rfl ?_
        refine mj_r_if_lt rfl (fun y2 => ?_) (fun y2 => absurd y2 (fun q => q (by decide +kernel)))
        refine mj_r_pure rfl rfl ?_
        refine rr_get rfl rfl rfl ?_
        exact mj_r_iret rfl rfl rfl ⟨rfl, rfl, m, nd, rfl⟩
    · iterate 2 (refine mj_r_pure rfl rfl ?_)
      refine mj_r_callV (ci := 10) (kc := 0) (ks := 0) rfl li_Ref_134 ck_Ref_isBatch iv_Ref_isBatch (by decide) rfl rfl (K_Ref_isBatch S _ nx) rfl rfl (Nat.le_of_ble_eq_true rfl) ?_
      rintro _ _ _ ⟨rfl, rfl, rfl⟩ _
      rw [bI_t a1]
      refine mj_r_if_eq rfl (fun c1 => absurd c1 (by decide)) (fun c1 => ?_)
      refine mj_r_pure rfl rfl ?_
      refine mj_r_if_lt rfl (fun c2 => ?_) (fun c2 => ?_)
      · refine mj_r_pure rfl rfl ?_
        exact mj_r_iret rfl rfl rfl (rx0 (by refine if_neg (fun q => ?_); rw [eb] at q; exact a2 q.2))
      · iterate 2 (refine mj_r_pure rfl rfl ?_)
        refine rr_get rfl rfl rfl ?_
        refine mj_r_pure rfl rfl ?_
        refine rx_iald rfl rfl (by first | rfl | assumption) (by omega) ?_
        refine mj_r_icmp_lt rfl (fun c3 => ?_) (fun c3 => ?_)
        · exact absurd ⟨nlt0_le c2, c3⟩ a2
        · refine mj_r_pure rfl rfl ?_
          exact mj_r_iret rfl rfl rfl (rx0 (by refine if_neg (fun q => ?_); rw [eb] at q; exact a2 q.2))
  · iterate 2 (refine mj_r_pure rfl rfl ?_)
    refine mj_r_callV (ci := 10) (kc := 0) (ks := 0) rfl li_Ref_134 ck_Ref_isBatch iv_Ref_isBatch (by decide) rfl rfl (K_Ref_isBatch S _ nx) rfl rfl (Nat.le_of_ble_eq_true rfl) ?_
    rintro _ _ _ ⟨rfl, rfl, rfl⟩ _
    rw [bI_f a1]
    refine mj_r_if_eq rfl (fun c1 => ?_) (fun c1 => absurd c1 (fun q => q rfl))
    refine mj_r_pure rfl rfl ?_
    exact mj_r_iret rfl rfl rfl (rx0 (by refine if_neg (fun q => ?_); exact a1 q.1))
