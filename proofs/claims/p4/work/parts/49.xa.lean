def dz_X184_98 (s : q_S) (a1 : Int32) (a2 : Int32) (a3 : Int32) (a4 : Int32) : q_S :=
  cond (decide (s.2.1 34 7 = 0)) (s) (cond (decide (s.2.1 34 5 < 0)) (s) (cond (decide (s.2.1 34 5 < 512)) ((q_sI (q_sA (q_sA (q_sA (q_sA s 67 (upd (s.1 67) ((s.2.1 34 5).toNatClampNeg) a1)) 68 (upd (s.1 68) ((s.2.1 34 5).toNatClampNeg) a2)) 69 (upd (s.1 69) ((s.2.1 34 5).toNatClampNeg) a3)) 70 (upd (s.1 70) ((s.2.1 34 5).toNatClampNeg) a4)) 34 5 ((s.2.1 34 5) + 1))) (s)))
set_option maxHeartbeats 4000000 in
theorem dzt_X184_98 (z L : Nat) (xs : Nat → Int32) (s : q_S) (c n : Nat) (a1 : Int32) (a2 : Int32) (a3 : Int32) (a4 : Int32) : q_Ca (q_TBs z L xs) 1 184 [.ref 98, .int a1, .int a2, .int a3, .int a4] (q_kX s c n) ((q_oSX c n) (dz_X184_98 s a1 a2 a3 a4)) := by
  refine q_CaT_of (φ := (q_oSX c n)) (Nat.le_of_ble_eq_true rfl) ?_
  unfold dz_X184_98
  refine q_RT_seg (g2 := (4, [(0, .ref 98), (1, .int a1), (2, .int a2), (3, .int a3), (4, .int a4)], [.int (s.2.1 34 7)], (q_kX s c n))) 2 (fun _ _ => rfl) ?_
  cases h1 : decide (s.2.1 34 7 = 0) with
  | true =>
    refine q_RT_cT ?_
    refine q_RT_rsT (g2 := (75, [(0, .ref 98), (1, .int a1), (2, .int a2), (3, .int a3), (4, .int a4)], [], (q_kX s c n))) rfl rfl h1 ?_
    exact q_RT_ret rfl rfl rfl
  | false =>
    refine q_RT_cF ?_
    refine q_RT_rsF (g2 := (7, [(0, .ref 98), (1, .int a1), (2, .int a2), (3, .int a3), (4, .int a4)], [], (q_kX s c n))) rfl rfl h1 ?_
    refine q_RT_seg (g2 := (11, [(0, .ref 98), (1, .int a1), (2, .int a2), (3, .int a3), (4, .int a4)], [.int (s.2.1 34 5)], (q_kX s c n))) 2 (fun _ _ => rfl) ?_
    cases h2 : decide (s.2.1 34 5 < 0) with
    | true =>
      refine q_RT_cT ?_
      refine q_RT_rsT (g2 := (75, [(0, .ref 98), (1, .int a1), (2, .int a2), (3, .int a3), (4, .int a4)], [], (q_kX s c n))) rfl rfl h2 ?_
      exact q_RT_ret rfl rfl rfl
    | false =>
      refine q_RT_cF ?_
      refine q_RT_rsF (g2 := (14, [(0, .ref 98), (1, .int a1), (2, .int a2), (3, .int a3), (4, .int a4)], [], (q_kX s c n))) rfl rfl h2 ?_
      refine q_RT_seg (g2 := (18, [(0, .ref 98), (1, .int a1), (2, .int a2), (3, .int a3), (4, .int a4)], [.int (s.2.1 34 5)], (q_kX s c n))) 2 (fun _ _ => rfl) ?_
      refine q_RT_seg (g2 := (21, [(0, .ref 98), (1, .int a1), (2, .int a2), (3, .int a3), (4, .int a4)], [.int 512, .int (s.2.1 34 5)], (q_kX s c n))) 1 (fun _ _ => rfl) ?_
      cases h3 : decide (s.2.1 34 5 < 512) with
      | true =>
        refine q_RT_cT ?_
        refine q_RT_rsF (g2 := (24, [(0, .ref 98), (1, .int a1), (2, .int a2), (3, .int a3), (4, .int a4)], [], (q_kX s c n))) rfl rfl (q_d_geT h3) ?_
        refine q_RT_seg (g2 := (32, [(0, .ref 98), (1, .int a1), (2, .int a2), (3, .int a3), (4, .int a4)], [.int (s.2.1 34 5), .ref 131], (q_kX s c n))) 4 (fun _ _ => rfl) ?_
        refine q_RT_seg (g2 := (33, [(0, .ref 98), (1, .int a1), (2, .int a2), (3, .int a3), (4, .int a4)], [.int a1, .int (s.2.1 34 5), .ref 131], (q_kX s c n))) 1 (fun _ _ => rfl) ?_
        refine q_RT_rsT (g2 := (34, [(0, .ref 98), (1, .int a1), (2, .int a2), (3, .int a3), (4, .int a4)], [], (q_kX (q_sA s 67 (upd (s.1 67) ((s.2.1 34 5).toNatClampNeg) a1)) c n))) rfl q_wX67 (q_in_bd (x := s.2.1 34 5) (n := 512) (U := 511) (L := 0) (q_lo1 h2) (q_hi1 h3)) ?_
        refine q_RT_seg (g2 := (42, [(0, .ref 98), (1, .int a1), (2, .int a2), (3, .int a3), (4, .int a4)], [.int (s.2.1 34 5), .ref 132], (q_kX (q_sA s 67 (upd (s.1 67) ((s.2.1 34 5).toNatClampNeg) a1)) c n))) 4 (fun _ _ => rfl) ?_
        refine q_RT_seg (g2 := (43, [(0, .ref 98), (1, .int a1), (2, .int a2), (3, .int a3), (4, .int a4)], [.int a2, .int (s.2.1 34 5), .ref 132], (q_kX (q_sA s 67 (upd (s.1 67) ((s.2.1 34 5).toNatClampNeg) a1)) c n))) 1 (fun _ _ => rfl) ?_
        refine q_RT_rsT (g2 := (44, [(0, .ref 98), (1, .int a1), (2, .int a2), (3, .int a3), (4, .int a4)], [], (q_kX (q_sA (q_sA s 67 (upd (s.1 67) ((s.2.1 34 5).toNatClampNeg) a1)) 68 (upd (s.1 68) ((s.2.1 34 5).toNatClampNeg) a2)) c n))) rfl q_wX68 (q_in_bd (x := s.2.1 34 5) (n := 512) (U := 511) (L := 0) (q_lo1 h2) (q_hi1 h3)) ?_
        refine q_RT_seg (g2 := (52, [(0, .ref 98), (1, .int a1), (2, .int a2), (3, .int a3), (4, .int a4)], [.int (s.2.1 34 5), .ref 133], (q_kX (q_sA (q_sA s 67 (upd (s.1 67) ((s.2.1 34 5).toNatClampNeg) a1)) 68 (upd (s.1 68) ((s.2.1 34 5).toNatClampNeg) a2)) c n))) 4 (fun _ _ => rfl) ?_
        refine q_RT_seg (g2 := (53, [(0, .ref 98), (1, .int a1), (2, .int a2), (3, .int a3), (4, .int a4)], [.int a3, .int (s.2.1 34 5), .ref 133], (q_kX (q_sA (q_sA s 67 (upd (s.1 67) ((s.2.1 34 5).toNatClampNeg) a1)) 68 (upd (s.1 68) ((s.2.1 34 5).toNatClampNeg) a2)) c n))) 1 (fun _ _ => rfl) ?_
        refine q_RT_rsT (g2 := (54, [(0, .ref 98), (1, .int a1), (2, .int a2), (3, .int a3), (4, .int a4)], [], (q_kX (q_sA (q_sA (q_sA s 67 (upd (s.1 67) ((s.2.1 34 5).toNatClampNeg) a1)) 68 (upd (s.1 68) ((s.2.1 34 5).toNatClampNeg) a2)) 69 (upd (s.1 69) ((s.2.1 34 5).toNatClampNeg) a3)) c n))) rfl q_wX69 (q_in_bd (x := s.2.1 34 5) (n := 512) (U := 511) (L := 0) (q_lo1 h2) (q_hi1 h3)) ?_
        refine q_RT_seg (g2 := (62, [(0, .ref 98), (1, .int a1), (2, .int a2), (3, .int a3), (4, .int a4)], [.int (s.2.1 34 5), .ref 134], (q_kX (q_sA (q_sA (q_sA s 67 (upd (s.1 67) ((s.2.1 34 5).toNatClampNeg) a1)) 68 (upd (s.1 68) ((s.2.1 34 5).toNatClampNeg) a2)) 69 (upd (s.1 69) ((s.2.1 34 5).toNatClampNeg) a3)) c n))) 4 (fun _ _ => rfl) ?_
        refine q_RT_seg (g2 := (64, [(0, .ref 98), (1, .int a1), (2, .int a2), (3, .int a3), (4, .int a4)], [.int a4, .int (s.2.1 34 5), .ref 134], (q_kX (q_sA (q_sA (q_sA s 67 (upd (s.1 67) ((s.2.1 34 5).toNatClampNeg) a1)) 68 (upd (s.1 68) ((s.2.1 34 5).toNatClampNeg) a2)) 69 (upd (s.1 69) ((s.2.1 34 5).toNatClampNeg) a3)) c n))) 1 (fun _ _ => rfl) ?_
        refine q_RT_rsT (g2 := (65, [(0, .ref 98), (1, .int a1), (2, .int a2), (3, .int a3), (4, .int a4)], [], (q_kX (q_sA (q_sA (q_sA (q_sA s 67 (upd (s.1 67) ((s.2.1 34 5).toNatClampNeg) a1)) 68 (upd (s.1 68) ((s.2.1 34 5).toNatClampNeg) a2)) 69 (upd (s.1 69) ((s.2.1 34 5).toNatClampNeg) a3)) 70 (upd (s.1 70) ((s.2.1 34 5).toNatClampNeg) a4)) c n))) rfl q_wX70 (q_in_bd (x := s.2.1 34 5) (n := 512) (U := 511) (L := 0) (q_lo1 h2) (q_hi1 h3)) ?_
        refine q_RT_seg (g2 := (70, [(0, .ref 98), (1, .int a1), (2, .int a2), (3, .int a3), (4, .int a4)], [.int (s.2.1 34 5), .ref 98], (q_kX (q_sA (q_sA (q_sA (q_sA s 67 (upd (s.1 67) ((s.2.1 34 5).toNatClampNeg) a1)) 68 (upd (s.1 68) ((s.2.1 34 5).toNatClampNeg) a2)) 69 (upd (s.1 69) ((s.2.1 34 5).toNatClampNeg) a3)) 70 (upd (s.1 70) ((s.2.1 34 5).toNatClampNeg) a4)) c n))) 3 (fun _ _ => rfl) ?_
        refine q_RT_seg (g2 := (72, [(0, .ref 98), (1, .int a1), (2, .int a2), (3, .int a3), (4, .int a4)], [.int ((s.2.1 34 5) + 1), .ref 98], (q_kX (q_sA (q_sA (q_sA (q_sA s 67 (upd (s.1 67) ((s.2.1 34 5).toNatClampNeg) a1)) 68 (upd (s.1 68) ((s.2.1 34 5).toNatClampNeg) a2)) 69 (upd (s.1 69) ((s.2.1 34 5).toNatClampNeg) a3)) 70 (upd (s.1 70) ((s.2.1 34 5).toNatClampNeg) a4)) c n))) 2 (fun _ _ => rfl) ?_
        refine q_RT_st1 (g2 := (75, [(0, .ref 98), (1, .int a1), (2, .int a2), (3, .int a3), (4, .int a4)], [], (q_kX (q_sI (q_sA (q_sA (q_sA (q_sA s 67 (upd (s.1 67) ((s.2.1 34 5).toNatClampNeg) a1)) 68 (upd (s.1 68) ((s.2.1 34 5).toNatClampNeg) a2)) 69 (upd (s.1 69) ((s.2.1 34 5).toNatClampNeg) a3)) 70 (upd (s.1 70) ((s.2.1 34 5).toNatClampNeg) a4)) 34 5 ((s.2.1 34 5) + 1)) c n))) rfl q_pX34_5 ?_
        exact q_RT_ret rfl rfl rfl
      | false =>
        refine q_RT_cF ?_
        refine q_RT_rsT (g2 := (75, [(0, .ref 98), (1, .int a1), (2, .int a2), (3, .int a3), (4, .int a4)], [], (q_kX s c n))) rfl rfl (q_d_geF h3) ?_
        exact q_RT_ret rfl rfl rfl
def dz_X0_64_236 (s : q_S) (a1 : Int32) (a2 : Int32) : Option (q_S × Int32 × Nat) :=
  cond (decide (a1 < 0)) (some (s, 1, 1)) (cond (decide (a1 < 4096)) (cond (decide (a2 < 0)) (some (s, 2, 1)) (cond (decide (255 < a2)) (some (s, 2, 1)) (q_let (dz_X184_98 s 0 a1 a2 0) fun r2 => (dz_N79_64 (q_vw 32 1 73 r2) 0 a1 a2 0).bind fun r3 => some ((q_sL (q_pt 32 3 1 73 r2 r3.1) 172 (vp_updL ((q_pt 32 3 1 73 r2 r3.1).2.2 172) 0 r3.2.toInt64)), 0, 0)))) (some (s, 1, 1)))
set_option maxHeartbeats 4000000 in
theorem dzt_X0_64_236 (z L : Nat) (xs : Nat → Int32) (s : q_S) (c n : Nat) (a1 : Int32) (a2 : Int32) (x : q_S × Int32 × Nat) (h : dz_X0_64_236 s a1 a2 = some x) : q_Ca (q_TBs z L xs) 10 0 [.ref 64, .int a1, .int a2, .ref 236] (q_kX s c n) ((q_oEX c n) x) := by
  refine q_CaP_of (φ := (q_oEX c n)) (Nat.le_of_ble_eq_true rfl) ?_ h
  clear h
  unfold dz_X0_64_236
  refine q_RP_seg (g2 := (5, [(0, .ref 64), (1, .int a1), (2, .int a2), (3, .ref 236)], [.int a2, .int a1, .ref 64, .int 0, .ref 236], (q_kX s c n))) 5 (fun _ _ => rfl) ?_
  cases h5 : decide (a1 < 0) with
  | true =>
    refine q_RP_cT ?_
    refine q_RP_callH (E := "java/lang/IndexOutOfBoundsException") (tg := 15) (i := 4) (h2 := (q_kX s (c + 1) (n + 6))) rfl rfl ?_ rfl ?_
    · refine q_Ca_of (Nat.le_of_ble_eq_true rfl) ?_
      refine q_Ru_seg (g2 := (1, [(0, .ref 64), (1, .int a1), (2, .int a2)], [.int a1], (q_kX s c n))) 1 (fun _ _ => rfl) ?_
      refine q_Ru_callX (E := "java/lang/IndexOutOfBoundsException") (h2 := (q_kX s (c + 1) (n + 6))) rfl rfl ?_
      refine q_Ca_of (Nat.le_of_ble_eq_true rfl) ?_
      refine q_Ru_seg (g2 := (4, [(0, .int a1)], [.int 4096, .int a1], (q_kX s c n))) 2 (fun _ _ => rfl) ?_
      refine q_Ru_callX (E := "java/lang/IndexOutOfBoundsException") (h2 := (q_kX s (c + 1) (n + 6))) rfl rfl ?_
      refine q_Ca_of (Nat.le_of_ble_eq_true rfl) ?_
      refine q_Ru_seg (g2 := (1, [(0, .int a1), (1, .int 4096)], [.int a1], (q_kX s c n))) 1 (fun _ _ => rfl) ?_
      refine q_Ru_rsT (g2 := (9, [(0, .int a1), (1, .int 4096)], [], (q_kX s c n))) rfl rfl h5 ?_
      exact q_Ru_thr rfl rfl
    show q_RP _ _ _ (15, [(0, .ref 64), (1, .int a1), (2, .int a2), (3, .ref 236)], [], (q_kX s (c + 1) (n + 6))) _ _
    refine q_RP_seg (g2 := (16, [(0, .ref 64), (1, .int a1), (2, .int a2), (3, .ref 236)], [.int 1], (q_kX s (c + 1) (n + 6)))) 1 (fun _ _ => rfl) ?_
    exact q_RP_ret rfl rfl rfl
  | false =>
    refine q_RP_cF ?_
    cases h6 : decide (a1 < 4096) with
    | true =>
      refine q_RP_cT ?_
      cases h7 : decide (a2 < 0) with
      | true =>
        refine q_RP_cT ?_
        refine q_RP_callH (E := "java/lang/IllegalArgumentException") (tg := 19) (i := 4) (h2 := (q_kX s (c + 1) (n + 6))) rfl rfl ?_ rfl ?_
        · refine q_Ca_of (Nat.le_of_ble_eq_true rfl) ?_
          refine q_Ru_seg (g2 := (1, [(0, .ref 64), (1, .int a1), (2, .int a2)], [.int a1], (q_kX s c n))) 1 (fun _ _ => rfl) ?_
          refine q_Ru_call (v := none) (h2 := (q_kX s c n)) rfl rfl ?_ ?_
          · refine q_Ca_of (Nat.le_of_ble_eq_true rfl) ?_
            refine q_Ru_seg (g2 := (4, [(0, .int a1)], [.int 4096, .int a1], (q_kX s c n))) 2 (fun _ _ => rfl) ?_
            refine q_Ru_call (v := none) (h2 := (q_kX s c n)) rfl rfl ?_ ?_
            · refine q_Ca_of (Nat.le_of_ble_eq_true rfl) ?_
              refine q_Ru_seg (g2 := (1, [(0, .int a1), (1, .int 4096)], [.int a1], (q_kX s c n))) 1 (fun _ _ => rfl) ?_
              refine q_Ru_rsF (g2 := (4, [(0, .int a1), (1, .int 4096)], [], (q_kX s c n))) rfl rfl h5 ?_
              refine q_Ru_seg (g2 := (6, [(0, .int a1), (1, .int 4096)], [.int 4096, .int a1], (q_kX s c n))) 2 (fun _ _ => rfl) ?_
              refine q_Ru_rsT (g2 := (19, [(0, .int a1), (1, .int 4096)], [], (q_kX s c n))) rfl rfl h6 ?_
              exact q_Ru_ret rfl rfl
            show q_Ru _ _ _ (7, [(0, .int a1)], [], (q_kX s c n)) _
            exact q_Ru_ret rfl rfl
          show q_Ru _ _ _ (4, [(0, .ref 64), (1, .int a1), (2, .int a2)], [], (q_kX s c n)) _
          refine q_Ru_seg (g2 := (5, [(0, .ref 64), (1, .int a1), (2, .int a2)], [.int a2], (q_kX s c n))) 1 (fun _ _ => rfl) ?_
          refine q_Ru_callX (E := "java/lang/IllegalArgumentException") (h2 := (q_kX s (c + 1) (n + 6))) rfl rfl ?_
          refine q_Ca_of (Nat.le_of_ble_eq_true rfl) ?_
          refine q_Ru_seg (g2 := (5, [(0, .int a2)], [.int 255, .int 0, .int a2], (q_kX s c n))) 3 (fun _ _ => rfl) ?_
          refine q_Ru_callX (E := "java/lang/IllegalArgumentException") (h2 := (q_kX s (c + 1) (n + 6))) rfl rfl ?_
          refine q_Ca_of (Nat.le_of_ble_eq_true rfl) ?_
          refine q_Ru_seg (g2 := (2, [(0, .int a2), (1, .int 0), (2, .int 255)], [.int 0, .int a2], (q_kX s c n))) 2 (fun _ _ => rfl) ?_
          refine q_Ru_rsT (g2 := (10, [(0, .int a2), (1, .int 0), (2, .int 255)], [], (q_kX s c n))) rfl rfl h7 ?_
          exact q_Ru_thr rfl rfl
        show q_RP _ _ _ (19, [(0, .ref 64), (1, .int a1), (2, .int a2), (3, .ref 236)], [], (q_kX s (c + 1) (n + 6))) _ _
        refine q_RP_seg (g2 := (20, [(0, .ref 64), (1, .int a1), (2, .int a2), (3, .ref 236)], [.int 2], (q_kX s (c + 1) (n + 6)))) 1 (fun _ _ => rfl) ?_
        exact q_RP_ret rfl rfl rfl
      | false =>
        refine q_RP_cF ?_
        cases h8 : decide (255 < a2) with
        | true =>
          refine q_RP_cT ?_
          refine q_RP_callH (E := "java/lang/IllegalArgumentException") (tg := 19) (i := 4) (h2 := (q_kX s (c + 1) (n + 6))) rfl rfl ?_ rfl ?_
          · refine q_Ca_of (Nat.le_of_ble_eq_true rfl) ?_
            refine q_Ru_seg (g2 := (1, [(0, .ref 64), (1, .int a1), (2, .int a2)], [.int a1], (q_kX s c n))) 1 (fun _ _ => rfl) ?_
            refine q_Ru_call (v := none) (h2 := (q_kX s c n)) rfl rfl ?_ ?_
            · refine q_Ca_of (Nat.le_of_ble_eq_true rfl) ?_
              refine q_Ru_seg (g2 := (4, [(0, .int a1)], [.int 4096, .int a1], (q_kX s c n))) 2 (fun _ _ => rfl) ?_
              refine q_Ru_call (v := none) (h2 := (q_kX s c n)) rfl rfl ?_ ?_
              · refine q_Ca_of (Nat.le_of_ble_eq_true rfl) ?_
                refine q_Ru_seg (g2 := (1, [(0, .int a1), (1, .int 4096)], [.int a1], (q_kX s c n))) 1 (fun _ _ => rfl) ?_
                refine q_Ru_rsF (g2 := (4, [(0, .int a1), (1, .int 4096)], [], (q_kX s c n))) rfl rfl h5 ?_
                refine q_Ru_seg (g2 := (6, [(0, .int a1), (1, .int 4096)], [.int 4096, .int a1], (q_kX s c n))) 2 (fun _ _ => rfl) ?_
                refine q_Ru_rsT (g2 := (19, [(0, .int a1), (1, .int 4096)], [], (q_kX s c n))) rfl rfl h6 ?_
                exact q_Ru_ret rfl rfl
              show q_Ru _ _ _ (7, [(0, .int a1)], [], (q_kX s c n)) _
              exact q_Ru_ret rfl rfl
            show q_Ru _ _ _ (4, [(0, .ref 64), (1, .int a1), (2, .int a2)], [], (q_kX s c n)) _
            refine q_Ru_seg (g2 := (5, [(0, .ref 64), (1, .int a1), (2, .int a2)], [.int a2], (q_kX s c n))) 1 (fun _ _ => rfl) ?_
            refine q_Ru_callX (E := "java/lang/IllegalArgumentException") (h2 := (q_kX s (c + 1) (n + 6))) rfl rfl ?_
            refine q_Ca_of (Nat.le_of_ble_eq_true rfl) ?_
            refine q_Ru_seg (g2 := (5, [(0, .int a2)], [.int 255, .int 0, .int a2], (q_kX s c n))) 3 (fun _ _ => rfl) ?_
            refine q_Ru_callX (E := "java/lang/IllegalArgumentException") (h2 := (q_kX s (c + 1) (n + 6))) rfl rfl ?_
            refine q_Ca_of (Nat.le_of_ble_eq_true rfl) ?_
            refine q_Ru_seg (g2 := (2, [(0, .int a2), (1, .int 0), (2, .int 255)], [.int 0, .int a2], (q_kX s c n))) 2 (fun _ _ => rfl) ?_
            refine q_Ru_rsF (g2 := (5, [(0, .int a2), (1, .int 0), (2, .int 255)], [], (q_kX s c n))) rfl rfl h7 ?_
            refine q_Ru_seg (g2 := (7, [(0, .int a2), (1, .int 0), (2, .int 255)], [.int 255, .int a2], (q_kX s c n))) 2 (fun _ _ => rfl) ?_
            refine q_Ru_rsF (g2 := (10, [(0, .int a2), (1, .int 0), (2, .int 255)], [], (q_kX s c n))) rfl rfl (q_d_geT h8) ?_
            exact q_Ru_thr rfl rfl
          show q_RP _ _ _ (19, [(0, .ref 64), (1, .int a1), (2, .int a2), (3, .ref 236)], [], (q_kX s (c + 1) (n + 6))) _ _
          refine q_RP_seg (g2 := (20, [(0, .ref 64), (1, .int a1), (2, .int a2), (3, .ref 236)], [.int 2], (q_kX s (c + 1) (n + 6)))) 1 (fun _ _ => rfl) ?_
          exact q_RP_ret rfl rfl rfl
        | false =>
          refine q_RP_cF ?_
          generalize er2 : dz_X184_98 s 0 a1 a2 0 = r2
          refine q_RP_let ?_
          refine q_RP_bd fun r3 er3 => ?_
          refine q_RP_call (v := (some (.int r3.2))) (h2 := (q_kX (q_pt 32 3 1 73 r2 r3.1) c n)) rfl rfl ?_ ?_
          · refine q_Ca_of (Nat.le_of_ble_eq_true rfl) ?_
            refine q_Ru_seg (g2 := (1, [(0, .ref 64), (1, .int a1), (2, .int a2)], [.int a1], (q_kX s c n))) 1 (fun _ _ => rfl) ?_
            refine q_Ru_call (v := none) (h2 := (q_kX s c n)) rfl rfl ?_ ?_
            · refine q_Ca_of (Nat.le_of_ble_eq_true rfl) ?_
              refine q_Ru_seg (g2 := (4, [(0, .int a1)], [.int 4096, .int a1], (q_kX s c n))) 2 (fun _ _ => rfl) ?_
              refine q_Ru_call (v := none) (h2 := (q_kX s c n)) rfl rfl ?_ ?_
              · refine q_Ca_of (Nat.le_of_ble_eq_true rfl) ?_
                refine q_Ru_seg (g2 := (1, [(0, .int a1), (1, .int 4096)], [.int a1], (q_kX s c n))) 1 (fun _ _ => rfl) ?_
                refine q_Ru_rsF (g2 := (4, [(0, .int a1), (1, .int 4096)], [], (q_kX s c n))) rfl rfl h5 ?_
                refine q_Ru_seg (g2 := (6, [(0, .int a1), (1, .int 4096)], [.int 4096, .int a1], (q_kX s c n))) 2 (fun _ _ => rfl) ?_
                refine q_Ru_rsT (g2 := (19, [(0, .int a1), (1, .int 4096)], [], (q_kX s c n))) rfl rfl h6 ?_
                exact q_Ru_ret rfl rfl
              show q_Ru _ _ _ (7, [(0, .int a1)], [], (q_kX s c n)) _
              exact q_Ru_ret rfl rfl
            show q_Ru _ _ _ (4, [(0, .ref 64), (1, .int a1), (2, .int a2)], [], (q_kX s c n)) _
            refine q_Ru_seg (g2 := (5, [(0, .ref 64), (1, .int a1), (2, .int a2)], [.int a2], (q_kX s c n))) 1 (fun _ _ => rfl) ?_
            refine q_Ru_call (v := none) (h2 := (q_kX s c n)) rfl rfl ?_ ?_
            · refine q_Ca_of (Nat.le_of_ble_eq_true rfl) ?_
              refine q_Ru_seg (g2 := (5, [(0, .int a2)], [.int 255, .int 0, .int a2], (q_kX s c n))) 3 (fun _ _ => rfl) ?_
              refine q_Ru_call (v := none) (h2 := (q_kX s c n)) rfl rfl ?_ ?_
              · refine q_Ca_of (Nat.le_of_ble_eq_true rfl) ?_
                refine q_Ru_seg (g2 := (2, [(0, .int a2), (1, .int 0), (2, .int 255)], [.int 0, .int a2], (q_kX s c n))) 2 (fun _ _ => rfl) ?_
                refine q_Ru_rsF (g2 := (5, [(0, .int a2), (1, .int 0), (2, .int 255)], [], (q_kX s c n))) rfl rfl h7 ?_
                refine q_Ru_seg (g2 := (7, [(0, .int a2), (1, .int 0), (2, .int 255)], [.int 255, .int a2], (q_kX s c n))) 2 (fun _ _ => rfl) ?_
                refine q_Ru_rsT (g2 := (20, [(0, .int a2), (1, .int 0), (2, .int 255)], [], (q_kX s c n))) rfl rfl (q_d_geF h8) ?_
                exact q_Ru_ret rfl rfl
              show q_Ru _ _ _ (8, [(0, .int a2)], [], (q_kX s c n)) _
              exact q_Ru_ret rfl rfl
            show q_Ru _ _ _ (8, [(0, .ref 64), (1, .int a1), (2, .int a2)], [], (q_kX s c n)) _
            refine q_Ru_seg (g2 := (16, [(0, .ref 64), (1, .int a1), (2, .int a2)], [.int 0, .int a2, .int a1, .int 0, .ref 98], (q_kX s c n))) 6 (fun _ _ => rfl) ?_
            refine q_Ru_call (v := none) (h2 := (q_kX r2 c n)) rfl rfl ?_ ?_
            · exact (q_cE (φ := (q_oSX c n)) er2 (dzt_X184_98 z L xs s c n 0 a1 a2 0)).le (Nat.le_of_ble_eq_true rfl)
            show q_Ru _ _ _ (19, [(0, .ref 64), (1, .int a1), (2, .int a2)], [], (q_kX r2 c n)) _
            refine q_Ru_seg (g2 := (27, [(0, .ref 64), (1, .int a1), (2, .int a2)], [.int 0, .int a2, .int a1, .int 0, .ref 65], (q_kX r2 c n))) 6 (fun _ _ => rfl) ?_
            refine q_Ru_call (v := (some (.int r3.2))) (h2 := (q_kX (q_pt 32 3 1 73 r2 r3.1) c n)) rfl rfl ?_ ?_
            · exact (q_emNX_1 rfl (fun _ => rfl) ((dzt_N79_64 (q_vw 32 1 73 r2) c n 0 a1 a2 0 r3 er3).tb q_TB0_le)).le (Nat.le_of_ble_eq_true rfl)
            show q_Ru _ _ _ (30, [(0, .ref 64), (1, .int a1), (2, .int a2)], [.int r3.2], (q_kX (q_pt 32 3 1 73 r2 r3.1) c n)) _
            exact q_Ru_ret rfl rfl
          show q_RP _ _ _ (8, [(0, .ref 64), (1, .int a1), (2, .int a2), (3, .ref 236)], [.int r3.2, .int 0, .ref 236], (q_kX (q_pt 32 3 1 73 r2 r3.1) c n)) _ _
          refine q_RP_seg (g2 := (9, [(0, .ref 64), (1, .int a1), (2, .int a2), (3, .ref 236)], [.long r3.2.toInt64, .int 0, .ref 236], (q_kX (q_pt 32 3 1 73 r2 r3.1) c n))) 1 (fun _ _ => rfl) ?_
          refine q_RP_rsT (g2 := (10, [(0, .ref 64), (1, .int a1), (2, .int a2), (3, .ref 236)], [], (q_kX (q_sL (q_pt 32 3 1 73 r2 r3.1) 172 (vp_updL ((q_pt 32 3 1 73 r2 r3.1).2.2 172) 0 r3.2.toInt64)) c n))) rfl q_wX172 rfl ?_
          refine q_RP_seg (g2 := (22, [(0, .ref 64), (1, .int a1), (2, .int a2), (3, .ref 236)], [.int 0], (q_kX (q_sL (q_pt 32 3 1 73 r2 r3.1) 172 (vp_updL ((q_pt 32 3 1 73 r2 r3.1).2.2 172) 0 r3.2.toInt64)) c n))) 2 (fun _ _ => rfl) ?_
          exact q_RP_ret rfl rfl rfl
    | false =>
      refine q_RP_cF ?_
      refine q_RP_callH (E := "java/lang/IndexOutOfBoundsException") (tg := 15) (i := 4) (h2 := (q_kX s (c + 1) (n + 6))) rfl rfl ?_ rfl ?_
      · refine q_Ca_of (Nat.le_of_ble_eq_true rfl) ?_
        refine q_Ru_seg (g2 := (1, [(0, .ref 64), (1, .int a1), (2, .int a2)], [.int a1], (q_kX s c n))) 1 (fun _ _ => rfl) ?_
        refine q_Ru_callX (E := "java/lang/IndexOutOfBoundsException") (h2 := (q_kX s (c + 1) (n + 6))) rfl rfl ?_
        refine q_Ca_of (Nat.le_of_ble_eq_true rfl) ?_
        refine q_Ru_seg (g2 := (4, [(0, .int a1)], [.int 4096, .int a1], (q_kX s c n))) 2 (fun _ _ => rfl) ?_
        refine q_Ru_callX (E := "java/lang/IndexOutOfBoundsException") (h2 := (q_kX s (c + 1) (n + 6))) rfl rfl ?_
        refine q_Ca_of (Nat.le_of_ble_eq_true rfl) ?_
        refine q_Ru_seg (g2 := (1, [(0, .int a1), (1, .int 4096)], [.int a1], (q_kX s c n))) 1 (fun _ _ => rfl) ?_
        refine q_Ru_rsF (g2 := (4, [(0, .int a1), (1, .int 4096)], [], (q_kX s c n))) rfl rfl h5 ?_
        refine q_Ru_seg (g2 := (6, [(0, .int a1), (1, .int 4096)], [.int 4096, .int a1], (q_kX s c n))) 2 (fun _ _ => rfl) ?_
        refine q_Ru_rsF (g2 := (9, [(0, .int a1), (1, .int 4096)], [], (q_kX s c n))) rfl rfl h6 ?_
        exact q_Ru_thr rfl rfl
      show q_RP _ _ _ (15, [(0, .ref 64), (1, .int a1), (2, .int a2), (3, .ref 236)], [], (q_kX s (c + 1) (n + 6))) _ _
      refine q_RP_seg (g2 := (16, [(0, .ref 64), (1, .int a1), (2, .int a2), (3, .ref 236)], [.int 1], (q_kX s (c + 1) (n + 6)))) 1 (fun _ _ => rfl) ?_
      exact q_RP_ret rfl rfl rfl
def dz_X1_64_236 (s : q_S) (a1 : Int32) (a2 : Int32) : Option (q_S × Int32 × Nat) :=
  cond (decide (a1 < 0)) (some (s, 1, 1)) (cond (decide (a1 < 512)) (cond (decide (a2 < 0)) (some (s, 2, 1)) (cond (decide (255 < a2)) (some (s, 2, 1)) (q_let (dz_X184_98 s 1 a1 a2 0) fun r2 => (dz_N79_64 (q_vw 32 1 73 r2) 1 a1 a2 0).bind fun r3 => some ((q_sL (q_pt 32 3 1 73 r2 r3.1) 172 (vp_updL ((q_pt 32 3 1 73 r2 r3.1).2.2 172) 0 r3.2.toInt64)), 0, 0)))) (some (s, 1, 1)))
set_option maxHeartbeats 4000000 in
theorem dzt_X1_64_236 (z L : Nat) (xs : Nat → Int32) (s : q_S) (c n : Nat) (a1 : Int32) (a2 : Int32) (x : q_S × Int32 × Nat) (h : dz_X1_64_236 s a1 a2 = some x) : q_Ca (q_TBs z L xs) 10 1 [.ref 64, .int a1, .int a2, .ref 236] (q_kX s c n) ((q_oEX c n) x) := by
  refine q_CaP_of (φ := (q_oEX c n)) (Nat.le_of_ble_eq_true rfl) ?_ h
  clear h
  unfold dz_X1_64_236
  refine q_RP_seg (g2 := (5, [(0, .ref 64), (1, .int a1), (2, .int a2), (3, .ref 236)], [.int a2, .int a1, .ref 64, .int 0, .ref 236], (q_kX s c n))) 5 (fun _ _ => rfl) ?_
  cases h5 : decide (a1 < 0) with
  | true =>
    refine q_RP_cT ?_
    refine q_RP_callH (E := "java/lang/IndexOutOfBoundsException") (tg := 15) (i := 4) (h2 := (q_kX s (c + 1) (n + 6))) rfl rfl ?_ rfl ?_
    · refine q_Ca_of (Nat.le_of_ble_eq_true rfl) ?_
      refine q_Ru_seg (g2 := (4, [(0, .ref 64), (1, .int a1), (2, .int a2)], [.int 512, .int a1], (q_kX s c n))) 2 (fun _ _ => rfl) ?_
      refine q_Ru_callX (E := "java/lang/IndexOutOfBoundsException") (h2 := (q_kX s (c + 1) (n + 6))) rfl rfl ?_
      refine q_Ca_of (Nat.le_of_ble_eq_true rfl) ?_
      refine q_Ru_seg (g2 := (1, [(0, .int a1), (1, .int 512)], [.int a1], (q_kX s c n))) 1 (fun _ _ => rfl) ?_
      refine q_Ru_rsT (g2 := (9, [(0, .int a1), (1, .int 512)], [], (q_kX s c n))) rfl rfl h5 ?_
      exact q_Ru_thr rfl rfl
    show q_RP _ _ _ (15, [(0, .ref 64), (1, .int a1), (2, .int a2), (3, .ref 236)], [], (q_kX s (c + 1) (n + 6))) _ _
    refine q_RP_seg (g2 := (16, [(0, .ref 64), (1, .int a1), (2, .int a2), (3, .ref 236)], [.int 1], (q_kX s (c + 1) (n + 6)))) 1 (fun _ _ => rfl) ?_
    exact q_RP_ret rfl rfl rfl
  | false =>
    refine q_RP_cF ?_
    cases h6 : decide (a1 < 512) with
    | true =>
      refine q_RP_cT ?_
      cases h7 : decide (a2 < 0) with
      | true =>
        refine q_RP_cT ?_
        refine q_RP_callH (E := "java/lang/IllegalArgumentException") (tg := 19) (i := 4) (h2 := (q_kX s (c + 1) (n + 6))) rfl rfl ?_ rfl ?_
        · refine q_Ca_of (Nat.le_of_ble_eq_true rfl) ?_
          refine q_Ru_seg (g2 := (4, [(0, .ref 64), (1, .int a1), (2, .int a2)], [.int 512, .int a1], (q_kX s c n))) 2 (fun _ _ => rfl) ?_
          refine q_Ru_call (v := none) (h2 := (q_kX s c n)) rfl rfl ?_ ?_
          · refine q_Ca_of (Nat.le_of_ble_eq_true rfl) ?_
            refine q_Ru_seg (g2 := (1, [(0, .int a1), (1, .int 512)], [.int a1], (q_kX s c n))) 1 (fun _ _ => rfl) ?_
            refine q_Ru_rsF (g2 := (4, [(0, .int a1), (1, .int 512)], [], (q_kX s c n))) rfl rfl h5 ?_
            refine q_Ru_seg (g2 := (6, [(0, .int a1), (1, .int 512)], [.int 512, .int a1], (q_kX s c n))) 2 (fun _ _ => rfl) ?_
            refine q_Ru_rsT (g2 := (19, [(0, .int a1), (1, .int 512)], [], (q_kX s c n))) rfl rfl h6 ?_
            exact q_Ru_ret rfl rfl
          show q_Ru _ _ _ (7, [(0, .ref 64), (1, .int a1), (2, .int a2)], [], (q_kX s c n)) _
          refine q_Ru_seg (g2 := (8, [(0, .ref 64), (1, .int a1), (2, .int a2)], [.int a2], (q_kX s c n))) 1 (fun _ _ => rfl) ?_
          refine q_Ru_callX (E := "java/lang/IllegalArgumentException") (h2 := (q_kX s (c + 1) (n + 6))) rfl rfl ?_
          refine q_Ca_of (Nat.le_of_ble_eq_true rfl) ?_
          refine q_Ru_seg (g2 := (5, [(0, .int a2)], [.int 255, .int 0, .int a2], (q_kX s c n))) 3 (fun _ _ => rfl) ?_
          refine q_Ru_callX (E := "java/lang/IllegalArgumentException") (h2 := (q_kX s (c + 1) (n + 6))) rfl rfl ?_
          refine q_Ca_of (Nat.le_of_ble_eq_true rfl) ?_
          refine q_Ru_seg (g2 := (2, [(0, .int a2), (1, .int 0), (2, .int 255)], [.int 0, .int a2], (q_kX s c n))) 2 (fun _ _ => rfl) ?_
          refine q_Ru_rsT (g2 := (10, [(0, .int a2), (1, .int 0), (2, .int 255)], [], (q_kX s c n))) rfl rfl h7 ?_
          exact q_Ru_thr rfl rfl
        show q_RP _ _ _ (19, [(0, .ref 64), (1, .int a1), (2, .int a2), (3, .ref 236)], [], (q_kX s (c + 1) (n + 6))) _ _
        refine q_RP_seg (g2 := (20, [(0, .ref 64), (1, .int a1), (2, .int a2), (3, .ref 236)], [.int 2], (q_kX s (c + 1) (n + 6)))) 1 (fun _ _ => rfl) ?_
        exact q_RP_ret rfl rfl rfl
      | false =>
        refine q_RP_cF ?_
        cases h8 : decide (255 < a2) with
        | true =>
          refine q_RP_cT ?_
          refine q_RP_callH (E := "java/lang/IllegalArgumentException") (tg := 19) (i := 4) (h2 := (q_kX s (c + 1) (n + 6))) rfl rfl ?_ rfl ?_
          · refine q_Ca_of (Nat.le_of_ble_eq_true rfl) ?_
            refine q_Ru_seg (g2 := (4, [(0, .ref 64), (1, .int a1), (2, .int a2)], [.int 512, .int a1], (q_kX s c n))) 2 (fun _ _ => rfl) ?_
            refine q_Ru_call (v := none) (h2 := (q_kX s c n)) rfl rfl ?_ ?_
            · refine q_Ca_of (Nat.le_of_ble_eq_true rfl) ?_
              refine q_Ru_seg (g2 := (1, [(0, .int a1), (1, .int 512)], [.int a1], (q_kX s c n))) 1 (fun _ _ => rfl) ?_
              refine q_Ru_rsF (g2 := (4, [(0, .int a1), (1, .int 512)], [], (q_kX s c n))) rfl rfl h5 ?_
              refine q_Ru_seg (g2 := (6, [(0, .int a1), (1, .int 512)], [.int 512, .int a1], (q_kX s c n))) 2 (fun _ _ => rfl) ?_
              refine q_Ru_rsT (g2 := (19, [(0, .int a1), (1, .int 512)], [], (q_kX s c n))) rfl rfl h6 ?_
              exact q_Ru_ret rfl rfl
            show q_Ru _ _ _ (7, [(0, .ref 64), (1, .int a1), (2, .int a2)], [], (q_kX s c n)) _
            refine q_Ru_seg (g2 := (8, [(0, .ref 64), (1, .int a1), (2, .int a2)], [.int a2], (q_kX s c n))) 1 (fun _ _ => rfl) ?_
            refine q_Ru_callX (E := "java/lang/IllegalArgumentException") (h2 := (q_kX s (c + 1) (n + 6))) rfl rfl ?_
            refine q_Ca_of (Nat.le_of_ble_eq_true rfl) ?_
            refine q_Ru_seg (g2 := (5, [(0, .int a2)], [.int 255, .int 0, .int a2], (q_kX s c n))) 3 (fun _ _ => rfl) ?_
            refine q_Ru_callX (E := "java/lang/IllegalArgumentException") (h2 := (q_kX s (c + 1) (n + 6))) rfl rfl ?_
            refine q_Ca_of (Nat.le_of_ble_eq_true rfl) ?_
            refine q_Ru_seg (g2 := (2, [(0, .int a2), (1, .int 0), (2, .int 255)], [.int 0, .int a2], (q_kX s c n))) 2 (fun _ _ => rfl) ?_
            refine q_Ru_rsF (g2 := (5, [(0, .int a2), (1, .int 0), (2, .int 255)], [], (q_kX s c n))) rfl rfl h7 ?_
            refine q_Ru_seg (g2 := (7, [(0, .int a2), (1, .int 0), (2, .int 255)], [.int 255, .int a2], (q_kX s c n))) 2 (fun _ _ => rfl) ?_
            refine q_Ru_rsF (g2 := (10, [(0, .int a2), (1, .int 0), (2, .int 255)], [], (q_kX s c n))) rfl rfl (q_d_geT h8) ?_
            exact q_Ru_thr rfl rfl
          show q_RP _ _ _ (19, [(0, .ref 64), (1, .int a1), (2, .int a2), (3, .ref 236)], [], (q_kX s (c + 1) (n + 6))) _ _
          refine q_RP_seg (g2 := (20, [(0, .ref 64), (1, .int a1), (2, .int a2), (3, .ref 236)], [.int 2], (q_kX s (c + 1) (n + 6)))) 1 (fun _ _ => rfl) ?_
          exact q_RP_ret rfl rfl rfl
        | false =>
          refine q_RP_cF ?_
          generalize er2 : dz_X184_98 s 1 a1 a2 0 = r2
          refine q_RP_let ?_
          refine q_RP_bd fun r3 er3 => ?_
          refine q_RP_call (v := (some (.int r3.2))) (h2 := (q_kX (q_pt 32 3 1 73 r2 r3.1) c n)) rfl rfl ?_ ?_
          · refine q_Ca_of (Nat.le_of_ble_eq_true rfl) ?_
            refine q_Ru_seg (g2 := (4, [(0, .ref 64), (1, .int a1), (2, .int a2)], [.int 512, .int a1], (q_kX s c n))) 2 (fun _ _ => rfl) ?_
            refine q_Ru_call (v := none) (h2 := (q_kX s c n)) rfl rfl ?_ ?_
            · refine q_Ca_of (Nat.le_of_ble_eq_true rfl) ?_
              refine q_Ru_seg (g2 := (1, [(0, .int a1), (1, .int 512)], [.int a1], (q_kX s c n))) 1 (fun _ _ => rfl) ?_
              refine q_Ru_rsF (g2 := (4, [(0, .int a1), (1, .int 512)], [], (q_kX s c n))) rfl rfl h5 ?_
              refine q_Ru_seg (g2 := (6, [(0, .int a1), (1, .int 512)], [.int 512, .int a1], (q_kX s c n))) 2 (fun _ _ => rfl) ?_
              refine q_Ru_rsT (g2 := (19, [(0, .int a1), (1, .int 512)], [], (q_kX s c n))) rfl rfl h6 ?_
              exact q_Ru_ret rfl rfl
            show q_Ru _ _ _ (7, [(0, .ref 64), (1, .int a1), (2, .int a2)], [], (q_kX s c n)) _
            refine q_Ru_seg (g2 := (8, [(0, .ref 64), (1, .int a1), (2, .int a2)], [.int a2], (q_kX s c n))) 1 (fun _ _ => rfl) ?_
            refine q_Ru_call (v := none) (h2 := (q_kX s c n)) rfl rfl ?_ ?_
            · refine q_Ca_of (Nat.le_of_ble_eq_true rfl) ?_
              refine q_Ru_seg (g2 := (5, [(0, .int a2)], [.int 255, .int 0, .int a2], (q_kX s c n))) 3 (fun _ _ => rfl) ?_
              refine q_Ru_call (v := none) (h2 := (q_kX s c n)) rfl rfl ?_ ?_
              · refine q_Ca_of (Nat.le_of_ble_eq_true rfl) ?_
                refine q_Ru_seg (g2 := (2, [(0, .int a2), (1, .int 0), (2, .int 255)], [.int 0, .int a2], (q_kX s c n))) 2 (fun _ _ => rfl) ?_
                refine q_Ru_rsF (g2 := (5, [(0, .int a2), (1, .int 0), (2, .int 255)], [], (q_kX s c n))) rfl rfl h7 ?_
                refine q_Ru_seg (g2 := (7, [(0, .int a2), (1, .int 0), (2, .int 255)], [.int 255, .int a2], (q_kX s c n))) 2 (fun _ _ => rfl) ?_
                refine q_Ru_rsT (g2 := (20, [(0, .int a2), (1, .int 0), (2, .int 255)], [], (q_kX s c n))) rfl rfl (q_d_geF h8) ?_
                exact q_Ru_ret rfl rfl
              show q_Ru _ _ _ (8, [(0, .int a2)], [], (q_kX s c n)) _
              exact q_Ru_ret rfl rfl
            show q_Ru _ _ _ (11, [(0, .ref 64), (1, .int a1), (2, .int a2)], [], (q_kX s c n)) _
            refine q_Ru_seg (g2 := (19, [(0, .ref 64), (1, .int a1), (2, .int a2)], [.int 0, .int a2, .int a1, .int 1, .ref 98], (q_kX s c n))) 6 (fun _ _ => rfl) ?_
            refine q_Ru_call (v := none) (h2 := (q_kX r2 c n)) rfl rfl ?_ ?_
            · exact (q_cE (φ := (q_oSX c n)) er2 (dzt_X184_98 z L xs s c n 1 a1 a2 0)).le (Nat.le_of_ble_eq_true rfl)
            show q_Ru _ _ _ (22, [(0, .ref 64), (1, .int a1), (2, .int a2)], [], (q_kX r2 c n)) _
            refine q_Ru_seg (g2 := (30, [(0, .ref 64), (1, .int a1), (2, .int a2)], [.int 0, .int a2, .int a1, .int 1, .ref 65], (q_kX r2 c n))) 6 (fun _ _ => rfl) ?_
            refine q_Ru_call (v := (some (.int r3.2))) (h2 := (q_kX (q_pt 32 3 1 73 r2 r3.1) c n)) rfl rfl ?_ ?_
            · exact (q_emNX_1 rfl (fun _ => rfl) ((dzt_N79_64 (q_vw 32 1 73 r2) c n 1 a1 a2 0 r3 er3).tb q_TB0_le)).le (Nat.le_of_ble_eq_true rfl)
            show q_Ru _ _ _ (33, [(0, .ref 64), (1, .int a1), (2, .int a2)], [.int r3.2], (q_kX (q_pt 32 3 1 73 r2 r3.1) c n)) _
            exact q_Ru_ret rfl rfl
          show q_RP _ _ _ (8, [(0, .ref 64), (1, .int a1), (2, .int a2), (3, .ref 236)], [.int r3.2, .int 0, .ref 236], (q_kX (q_pt 32 3 1 73 r2 r3.1) c n)) _ _
          refine q_RP_seg (g2 := (9, [(0, .ref 64), (1, .int a1), (2, .int a2), (3, .ref 236)], [.long r3.2.toInt64, .int 0, .ref 236], (q_kX (q_pt 32 3 1 73 r2 r3.1) c n))) 1 (fun _ _ => rfl) ?_
          refine q_RP_rsT (g2 := (10, [(0, .ref 64), (1, .int a1), (2, .int a2), (3, .ref 236)], [], (q_kX (q_sL (q_pt 32 3 1 73 r2 r3.1) 172 (vp_updL ((q_pt 32 3 1 73 r2 r3.1).2.2 172) 0 r3.2.toInt64)) c n))) rfl q_wX172 rfl ?_
          refine q_RP_seg (g2 := (22, [(0, .ref 64), (1, .int a1), (2, .int a2), (3, .ref 236)], [.int 0], (q_kX (q_sL (q_pt 32 3 1 73 r2 r3.1) 172 (vp_updL ((q_pt 32 3 1 73 r2 r3.1).2.2 172) 0 r3.2.toInt64)) c n))) 2 (fun _ _ => rfl) ?_
          exact q_RP_ret rfl rfl rfl
    | false =>
      refine q_RP_cF ?_
      refine q_RP_callH (E := "java/lang/IndexOutOfBoundsException") (tg := 15) (i := 4) (h2 := (q_kX s (c + 1) (n + 6))) rfl rfl ?_ rfl ?_
      · refine q_Ca_of (Nat.le_of_ble_eq_true rfl) ?_
        refine q_Ru_seg (g2 := (4, [(0, .ref 64), (1, .int a1), (2, .int a2)], [.int 512, .int a1], (q_kX s c n))) 2 (fun _ _ => rfl) ?_
        refine q_Ru_callX (E := "java/lang/IndexOutOfBoundsException") (h2 := (q_kX s (c + 1) (n + 6))) rfl rfl ?_
        refine q_Ca_of (Nat.le_of_ble_eq_true rfl) ?_
        refine q_Ru_seg (g2 := (1, [(0, .int a1), (1, .int 512)], [.int a1], (q_kX s c n))) 1 (fun _ _ => rfl) ?_
        refine q_Ru_rsF (g2 := (4, [(0, .int a1), (1, .int 512)], [], (q_kX s c n))) rfl rfl h5 ?_
        refine q_Ru_seg (g2 := (6, [(0, .int a1), (1, .int 512)], [.int 512, .int a1], (q_kX s c n))) 2 (fun _ _ => rfl) ?_
        refine q_Ru_rsF (g2 := (9, [(0, .int a1), (1, .int 512)], [], (q_kX s c n))) rfl rfl h6 ?_
        exact q_Ru_thr rfl rfl
      show q_RP _ _ _ (15, [(0, .ref 64), (1, .int a1), (2, .int a2), (3, .ref 236)], [], (q_kX s (c + 1) (n + 6))) _ _
      refine q_RP_seg (g2 := (16, [(0, .ref 64), (1, .int a1), (2, .int a2), (3, .ref 236)], [.int 1], (q_kX s (c + 1) (n + 6)))) 1 (fun _ _ => rfl) ?_
      exact q_RP_ret rfl rfl rfl
def dz_X2_64_236 (s : q_S) (a1 : Int32) (a2 : Int32) (a3 : Int32) : Option (q_S × Int32 × Nat) :=
  cond (decide (a1 < 0)) (some (s, 1, 1)) (cond (decide (a1 < 4)) (cond (decide (a2 < 0)) (some (s, 1, 1)) (cond (decide (a2 < 512)) (cond (decide (a3 < 0)) (some (s, 2, 1)) (cond (decide (255 < a3)) (some (s, 2, 1)) (q_let (dz_X184_98 s 2 a1 a2 a3) fun r2 => (dz_N79_64 (q_vw 32 1 73 r2) 2 a1 a2 a3).bind fun r3 => some ((q_sL (q_pt 32 3 1 73 r2 r3.1) 172 (vp_updL ((q_pt 32 3 1 73 r2 r3.1).2.2 172) 0 r3.2.toInt64)), 0, 0)))) (some (s, 1, 1)))) (some (s, 1, 1)))
set_option maxHeartbeats 4000000 in
theorem dzt_X2_64_236 (z L : Nat) (xs : Nat → Int32) (s : q_S) (c n : Nat) (a1 : Int32) (a2 : Int32) (a3 : Int32) (x : q_S × Int32 × Nat) (h : dz_X2_64_236 s a1 a2 a3 = some x) : q_Ca (q_TBs z L xs) 10 2 [.ref 64, .int a1, .int a2, .int a3, .ref 236] (q_kX s c n) ((q_oEX c n) x) := by
  refine q_CaP_of (φ := (q_oEX c n)) (Nat.le_of_ble_eq_true rfl) ?_ h
  clear h
  unfold dz_X2_64_236
  refine q_RP_seg (g2 := (7, [(0, .ref 64), (1, .int a1), (2, .int a2), (3, .int a3), (4, .ref 236)], [.int a3, .int a2, .int a1, .ref 64, .int 0, .ref 236], (q_kX s c n))) 6 (fun _ _ => rfl) ?_
  cases h7 : decide (a1 < 0) with
  | true =>
    refine q_RP_cT ?_
    refine q_RP_callH (E := "java/lang/IndexOutOfBoundsException") (tg := 17) (i := 5) (h2 := (q_kX s (c + 1) (n + 6))) rfl rfl ?_ rfl ?_
    · refine q_Ca_of (Nat.le_of_ble_eq_true rfl) ?_
      refine q_Ru_seg (g2 := (2, [(0, .ref 64), (1, .int a1), (2, .int a2), (3, .int a3)], [.int 4, .int a1], (q_kX s c n))) 2 (fun _ _ => rfl) ?_
      refine q_Ru_callX (E := "java/lang/IndexOutOfBoundsException") (h2 := (q_kX s (c + 1) (n + 6))) rfl rfl ?_
      refine q_Ca_of (Nat.le_of_ble_eq_true rfl) ?_
      refine q_Ru_seg (g2 := (1, [(0, .int a1), (1, .int 4)], [.int a1], (q_kX s c n))) 1 (fun _ _ => rfl) ?_
      refine q_Ru_rsT (g2 := (9, [(0, .int a1), (1, .int 4)], [], (q_kX s c n))) rfl rfl h7 ?_
      exact q_Ru_thr rfl rfl
    show q_RP _ _ _ (17, [(0, .ref 64), (1, .int a1), (2, .int a2), (3, .int a3), (4, .ref 236)], [], (q_kX s (c + 1) (n + 6))) _ _
    refine q_RP_seg (g2 := (18, [(0, .ref 64), (1, .int a1), (2, .int a2), (3, .int a3), (4, .ref 236)], [.int 1], (q_kX s (c + 1) (n + 6)))) 1 (fun _ _ => rfl) ?_
    exact q_RP_ret rfl rfl rfl
  | false =>
    refine q_RP_cF ?_
    cases h8 : decide (a1 < 4) with
    | true =>
      refine q_RP_cT ?_
      cases h9 : decide (a2 < 0) with
      | true =>
        refine q_RP_cT ?_
        refine q_RP_callH (E := "java/lang/IndexOutOfBoundsException") (tg := 17) (i := 5) (h2 := (q_kX s (c + 1) (n + 6))) rfl rfl ?_ rfl ?_
        · refine q_Ca_of (Nat.le_of_ble_eq_true rfl) ?_
          refine q_Ru_seg (g2 := (2, [(0, .ref 64), (1, .int a1), (2, .int a2), (3, .int a3)], [.int 4, .int a1], (q_kX s c n))) 2 (fun _ _ => rfl) ?_
          refine q_Ru_call (v := none) (h2 := (q_kX s c n)) rfl rfl ?_ ?_
          · refine q_Ca_of (Nat.le_of_ble_eq_true rfl) ?_
            refine q_Ru_seg (g2 := (1, [(0, .int a1), (1, .int 4)], [.int a1], (q_kX s c n))) 1 (fun _ _ => rfl) ?_
            refine q_Ru_rsF (g2 := (4, [(0, .int a1), (1, .int 4)], [], (q_kX s c n))) rfl rfl h7 ?_
            refine q_Ru_seg (g2 := (6, [(0, .int a1), (1, .int 4)], [.int 4, .int a1], (q_kX s c n))) 2 (fun _ _ => rfl) ?_
            refine q_Ru_rsT (g2 := (19, [(0, .int a1), (1, .int 4)], [], (q_kX s c n))) rfl rfl h8 ?_
            exact q_Ru_ret rfl rfl
          show q_Ru _ _ _ (5, [(0, .ref 64), (1, .int a1), (2, .int a2), (3, .int a3)], [], (q_kX s c n)) _
          refine q_Ru_seg (g2 := (9, [(0, .ref 64), (1, .int a1), (2, .int a2), (3, .int a3)], [.int 512, .int a2], (q_kX s c n))) 2 (fun _ _ => rfl) ?_
          refine q_Ru_callX (E := "java/lang/IndexOutOfBoundsException") (h2 := (q_kX s (c + 1) (n + 6))) rfl rfl ?_
          refine q_Ca_of (Nat.le_of_ble_eq_true rfl) ?_
          refine q_Ru_seg (g2 := (1, [(0, .int a2), (1, .int 512)], [.int a2], (q_kX s c n))) 1 (fun _ _ => rfl) ?_
          refine q_Ru_rsT (g2 := (9, [(0, .int a2), (1, .int 512)], [], (q_kX s c n))) rfl rfl h9 ?_
          exact q_Ru_thr rfl rfl
        show q_RP _ _ _ (17, [(0, .ref 64), (1, .int a1), (2, .int a2), (3, .int a3), (4, .ref 236)], [], (q_kX s (c + 1) (n + 6))) _ _
        refine q_RP_seg (g2 := (18, [(0, .ref 64), (1, .int a1), (2, .int a2), (3, .int a3), (4, .ref 236)], [.int 1], (q_kX s (c + 1) (n + 6)))) 1 (fun _ _ => rfl) ?_
        exact q_RP_ret rfl rfl rfl
      | false =>
        refine q_RP_cF ?_
        cases h10 : decide (a2 < 512) with
        | true =>
          refine q_RP_cT ?_
          cases h11 : decide (a3 < 0) with
          | true =>
            refine q_RP_cT ?_
            refine q_RP_callH (E := "java/lang/IllegalArgumentException") (tg := 21) (i := 5) (h2 := (q_kX s (c + 1) (n + 6))) rfl rfl ?_ rfl ?_
            · refine q_Ca_of (Nat.le_of_ble_eq_true rfl) ?_
              refine q_Ru_seg (g2 := (2, [(0, .ref 64), (1, .int a1), (2, .int a2), (3, .int a3)], [.int 4, .int a1], (q_kX s c n))) 2 (fun _ _ => rfl) ?_
              refine q_Ru_call (v := none) (h2 := (q_kX s c n)) rfl rfl ?_ ?_
              · refine q_Ca_of (Nat.le_of_ble_eq_true rfl) ?_
                refine q_Ru_seg (g2 := (1, [(0, .int a1), (1, .int 4)], [.int a1], (q_kX s c n))) 1 (fun _ _ => rfl) ?_
                refine q_Ru_rsF (g2 := (4, [(0, .int a1), (1, .int 4)], [], (q_kX s c n))) rfl rfl h7 ?_
                refine q_Ru_seg (g2 := (6, [(0, .int a1), (1, .int 4)], [.int 4, .int a1], (q_kX s c n))) 2 (fun _ _ => rfl) ?_
                refine q_Ru_rsT (g2 := (19, [(0, .int a1), (1, .int 4)], [], (q_kX s c n))) rfl rfl h8 ?_
                exact q_Ru_ret rfl rfl
              show q_Ru _ _ _ (5, [(0, .ref 64), (1, .int a1), (2, .int a2), (3, .int a3)], [], (q_kX s c n)) _
              refine q_Ru_seg (g2 := (9, [(0, .ref 64), (1, .int a1), (2, .int a2), (3, .int a3)], [.int 512, .int a2], (q_kX s c n))) 2 (fun _ _ => rfl) ?_
              refine q_Ru_call (v := none) (h2 := (q_kX s c n)) rfl rfl ?_ ?_
              · refine q_Ca_of (Nat.le_of_ble_eq_true rfl) ?_
                refine q_Ru_seg (g2 := (1, [(0, .int a2), (1, .int 512)], [.int a2], (q_kX s c n))) 1 (fun _ _ => rfl) ?_
                refine q_Ru_rsF (g2 := (4, [(0, .int a2), (1, .int 512)], [], (q_kX s c n))) rfl rfl h9 ?_
                refine q_Ru_seg (g2 := (6, [(0, .int a2), (1, .int 512)], [.int 512, .int a2], (q_kX s c n))) 2 (fun _ _ => rfl) ?_
                refine q_Ru_rsT (g2 := (19, [(0, .int a2), (1, .int 512)], [], (q_kX s c n))) rfl rfl h10 ?_
                exact q_Ru_ret rfl rfl
              show q_Ru _ _ _ (12, [(0, .ref 64), (1, .int a1), (2, .int a2), (3, .int a3)], [], (q_kX s c n)) _
              refine q_Ru_seg (g2 := (13, [(0, .ref 64), (1, .int a1), (2, .int a2), (3, .int a3)], [.int a3], (q_kX s c n))) 1 (fun _ _ => rfl) ?_
              refine q_Ru_callX (E := "java/lang/IllegalArgumentException") (h2 := (q_kX s (c + 1) (n + 6))) rfl rfl ?_
              refine q_Ca_of (Nat.le_of_ble_eq_true rfl) ?_
              refine q_Ru_seg (g2 := (5, [(0, .int a3)], [.int 255, .int 0, .int a3], (q_kX s c n))) 3 (fun _ _ => rfl) ?_
              refine q_Ru_callX (E := "java/lang/IllegalArgumentException") (h2 := (q_kX s (c + 1) (n + 6))) rfl rfl ?_
              refine q_Ca_of (Nat.le_of_ble_eq_true rfl) ?_
              refine q_Ru_seg (g2 := (2, [(0, .int a3), (1, .int 0), (2, .int 255)], [.int 0, .int a3], (q_kX s c n))) 2 (fun _ _ => rfl) ?_
              refine q_Ru_rsT (g2 := (10, [(0, .int a3), (1, .int 0), (2, .int 255)], [], (q_kX s c n))) rfl rfl h11 ?_
              exact q_Ru_thr rfl rfl
            show q_RP _ _ _ (21, [(0, .ref 64), (1, .int a1), (2, .int a2), (3, .int a3), (4, .ref 236)], [], (q_kX s (c + 1) (n + 6))) _ _
            refine q_RP_seg (g2 := (22, [(0, .ref 64), (1, .int a1), (2, .int a2), (3, .int a3), (4, .ref 236)], [.int 2], (q_kX s (c + 1) (n + 6)))) 1 (fun _ _ => rfl) ?_
            exact q_RP_ret rfl rfl rfl
          | false =>
            refine q_RP_cF ?_
            cases h12 : decide (255 < a3) with
            | true =>
              refine q_RP_cT ?_
              refine q_RP_callH (E := "java/lang/IllegalArgumentException") (tg := 21) (i := 5) (h2 := (q_kX s (c + 1) (n + 6))) rfl rfl ?_ rfl ?_
              · refine q_Ca_of (Nat.le_of_ble_eq_true rfl) ?_
                refine q_Ru_seg (g2 := (2, [(0, .ref 64), (1, .int a1), (2, .int a2), (3, .int a3)], [.int 4, .int a1], (q_kX s c n))) 2 (fun _ _ => rfl) ?_
                refine q_Ru_call (v := none) (h2 := (q_kX s c n)) rfl rfl ?_ ?_
                · refine q_Ca_of (Nat.le_of_ble_eq_true rfl) ?_
                  refine q_Ru_seg (g2 := (1, [(0, .int a1), (1, .int 4)], [.int a1], (q_kX s c n))) 1 (fun _ _ => rfl) ?_
                  refine q_Ru_rsF (g2 := (4, [(0, .int a1), (1, .int 4)], [], (q_kX s c n))) rfl rfl h7 ?_
                  refine q_Ru_seg (g2 := (6, [(0, .int a1), (1, .int 4)], [.int 4, .int a1], (q_kX s c n))) 2 (fun _ _ => rfl) ?_
                  refine q_Ru_rsT (g2 := (19, [(0, .int a1), (1, .int 4)], [], (q_kX s c n))) rfl rfl h8 ?_
                  exact q_Ru_ret rfl rfl
                show q_Ru _ _ _ (5, [(0, .ref 64), (1, .int a1), (2, .int a2), (3, .int a3)], [], (q_kX s c n)) _
                refine q_Ru_seg (g2 := (9, [(0, .ref 64), (1, .int a1), (2, .int a2), (3, .int a3)], [.int 512, .int a2], (q_kX s c n))) 2 (fun _ _ => rfl) ?_
                refine q_Ru_call (v := none) (h2 := (q_kX s c n)) rfl rfl ?_ ?_
                · refine q_Ca_of (Nat.le_of_ble_eq_true rfl) ?_
                  refine q_Ru_seg (g2 := (1, [(0, .int a2), (1, .int 512)], [.int a2], (q_kX s c n))) 1 (fun _ _ => rfl) ?_
                  refine q_Ru_rsF (g2 := (4, [(0, .int a2), (1, .int 512)], [], (q_kX s c n))) rfl rfl h9 ?_
                  refine q_Ru_seg (g2 := (6, [(0, .int a2), (1, .int 512)], [.int 512, .int a2], (q_kX s c n))) 2 (fun _ _ => rfl) ?_
                  refine q_Ru_rsT (g2 := (19, [(0, .int a2), (1, .int 512)], [], (q_kX s c n))) rfl rfl h10 ?_
                  exact q_Ru_ret rfl rfl
                show q_Ru _ _ _ (12, [(0, .ref 64), (1, .int a1), (2, .int a2), (3, .int a3)], [], (q_kX s c n)) _
                refine q_Ru_seg (g2 := (13, [(0, .ref 64), (1, .int a1), (2, .int a2), (3, .int a3)], [.int a3], (q_kX s c n))) 1 (fun _ _ => rfl) ?_
                refine q_Ru_callX (E := "java/lang/IllegalArgumentException") (h2 := (q_kX s (c + 1) (n + 6))) rfl rfl ?_
                refine q_Ca_of (Nat.le_of_ble_eq_true rfl) ?_
                refine q_Ru_seg (g2 := (5, [(0, .int a3)], [.int 255, .int 0, .int a3], (q_kX s c n))) 3 (fun _ _ => rfl) ?_
                refine q_Ru_callX (E := "java/lang/IllegalArgumentException") (h2 := (q_kX s (c + 1) (n + 6))) rfl rfl ?_
                refine q_Ca_of (Nat.le_of_ble_eq_true rfl) ?_
                refine q_Ru_seg (g2 := (2, [(0, .int a3), (1, .int 0), (2, .int 255)], [.int 0, .int a3], (q_kX s c n))) 2 (fun _ _ => rfl) ?_
                refine q_Ru_rsF (g2 := (5, [(0, .int a3), (1, .int 0), (2, .int 255)], [], (q_kX s c n))) rfl rfl h11 ?_
                refine q_Ru_seg (g2 := (7, [(0, .int a3), (1, .int 0), (2, .int 255)], [.int 255, .int a3], (q_kX s c n))) 2 (fun _ _ => rfl) ?_
                refine q_Ru_rsF (g2 := (10, [(0, .int a3), (1, .int 0), (2, .int 255)], [], (q_kX s c n))) rfl rfl (q_d_geT h12) ?_
                exact q_Ru_thr rfl rfl
              show q_RP _ _ _ (21, [(0, .ref 64), (1, .int a1), (2, .int a2), (3, .int a3), (4, .ref 236)], [], (q_kX s (c + 1) (n + 6))) _ _
              refine q_RP_seg (g2 := (22, [(0, .ref 64), (1, .int a1), (2, .int a2), (3, .int a3), (4, .ref 236)], [.int 2], (q_kX s (c + 1) (n + 6)))) 1 (fun _ _ => rfl) ?_
              exact q_RP_ret rfl rfl rfl
            | false =>
              refine q_RP_cF ?_
              generalize er2 : dz_X184_98 s 2 a1 a2 a3 = r2
              refine q_RP_let ?_
              refine q_RP_bd fun r3 er3 => ?_
              refine q_RP_call (v := (some (.int r3.2))) (h2 := (q_kX (q_pt 32 3 1 73 r2 r3.1) c n)) rfl rfl ?_ ?_
              · refine q_Ca_of (Nat.le_of_ble_eq_true rfl) ?_
                refine q_Ru_seg (g2 := (2, [(0, .ref 64), (1, .int a1), (2, .int a2), (3, .int a3)], [.int 4, .int a1], (q_kX s c n))) 2 (fun _ _ => rfl) ?_
                refine q_Ru_call (v := none) (h2 := (q_kX s c n)) rfl rfl ?_ ?_
                · refine q_Ca_of (Nat.le_of_ble_eq_true rfl) ?_
                  refine q_Ru_seg (g2 := (1, [(0, .int a1), (1, .int 4)], [.int a1], (q_kX s c n))) 1 (fun _ _ => rfl) ?_
                  refine q_Ru_rsF (g2 := (4, [(0, .int a1), (1, .int 4)], [], (q_kX s c n))) rfl rfl h7 ?_
                  refine q_Ru_seg (g2 := (6, [(0, .int a1), (1, .int 4)], [.int 4, .int a1], (q_kX s c n))) 2 (fun _ _ => rfl) ?_
                  refine q_Ru_rsT (g2 := (19, [(0, .int a1), (1, .int 4)], [], (q_kX s c n))) rfl rfl h8 ?_
                  exact q_Ru_ret rfl rfl
                show q_Ru _ _ _ (5, [(0, .ref 64), (1, .int a1), (2, .int a2), (3, .int a3)], [], (q_kX s c n)) _
                refine q_Ru_seg (g2 := (9, [(0, .ref 64), (1, .int a1), (2, .int a2), (3, .int a3)], [.int 512, .int a2], (q_kX s c n))) 2 (fun _ _ => rfl) ?_
                refine q_Ru_call (v := none) (h2 := (q_kX s c n)) rfl rfl ?_ ?_
                · refine q_Ca_of (Nat.le_of_ble_eq_true rfl) ?_
                  refine q_Ru_seg (g2 := (1, [(0, .int a2), (1, .int 512)], [.int a2], (q_kX s c n))) 1 (fun _ _ => rfl) ?_
                  refine q_Ru_rsF (g2 := (4, [(0, .int a2), (1, .int 512)], [], (q_kX s c n))) rfl rfl h9 ?_
                  refine q_Ru_seg (g2 := (6, [(0, .int a2), (1, .int 512)], [.int 512, .int a2], (q_kX s c n))) 2 (fun _ _ => rfl) ?_
                  refine q_Ru_rsT (g2 := (19, [(0, .int a2), (1, .int 512)], [], (q_kX s c n))) rfl rfl h10 ?_
                  exact q_Ru_ret rfl rfl
                show q_Ru _ _ _ (12, [(0, .ref 64), (1, .int a1), (2, .int a2), (3, .int a3)], [], (q_kX s c n)) _
                refine q_Ru_seg (g2 := (13, [(0, .ref 64), (1, .int a1), (2, .int a2), (3, .int a3)], [.int a3], (q_kX s c n))) 1 (fun _ _ => rfl) ?_
                refine q_Ru_call (v := none) (h2 := (q_kX s c n)) rfl rfl ?_ ?_
                · refine q_Ca_of (Nat.le_of_ble_eq_true rfl) ?_
                  refine q_Ru_seg (g2 := (5, [(0, .int a3)], [.int 255, .int 0, .int a3], (q_kX s c n))) 3 (fun _ _ => rfl) ?_
                  refine q_Ru_call (v := none) (h2 := (q_kX s c n)) rfl rfl ?_ ?_
                  · refine q_Ca_of (Nat.le_of_ble_eq_true rfl) ?_
                    refine q_Ru_seg (g2 := (2, [(0, .int a3), (1, .int 0), (2, .int 255)], [.int 0, .int a3], (q_kX s c n))) 2 (fun _ _ => rfl) ?_
                    refine q_Ru_rsF (g2 := (5, [(0, .int a3), (1, .int 0), (2, .int 255)], [], (q_kX s c n))) rfl rfl h11 ?_
                    refine q_Ru_seg (g2 := (7, [(0, .int a3), (1, .int 0), (2, .int 255)], [.int 255, .int a3], (q_kX s c n))) 2 (fun _ _ => rfl) ?_
                    refine q_Ru_rsT (g2 := (20, [(0, .int a3), (1, .int 0), (2, .int 255)], [], (q_kX s c n))) rfl rfl (q_d_geF h12) ?_
                    exact q_Ru_ret rfl rfl
                  show q_Ru _ _ _ (8, [(0, .int a3)], [], (q_kX s c n)) _
                  exact q_Ru_ret rfl rfl
                show q_Ru _ _ _ (16, [(0, .ref 64), (1, .int a1), (2, .int a2), (3, .int a3)], [], (q_kX s c n)) _
                refine q_Ru_seg (g2 := (24, [(0, .ref 64), (1, .int a1), (2, .int a2), (3, .int a3)], [.int a3, .int a2, .int a1, .int 2, .ref 98], (q_kX s c n))) 6 (fun _ _ => rfl) ?_
                refine q_Ru_call (v := none) (h2 := (q_kX r2 c n)) rfl rfl ?_ ?_
                · exact (q_cE (φ := (q_oSX c n)) er2 (dzt_X184_98 z L xs s c n 2 a1 a2 a3)).le (Nat.le_of_ble_eq_true rfl)
                show q_Ru _ _ _ (27, [(0, .ref 64), (1, .int a1), (2, .int a2), (3, .int a3)], [], (q_kX r2 c n)) _
                refine q_Ru_seg (g2 := (35, [(0, .ref 64), (1, .int a1), (2, .int a2), (3, .int a3)], [.int a3, .int a2, .int a1, .int 2, .ref 65], (q_kX r2 c n))) 6 (fun _ _ => rfl) ?_
                refine q_Ru_call (v := (some (.int r3.2))) (h2 := (q_kX (q_pt 32 3 1 73 r2 r3.1) c n)) rfl rfl ?_ ?_
                · exact (q_emNX_1 rfl (fun _ => rfl) ((dzt_N79_64 (q_vw 32 1 73 r2) c n 2 a1 a2 a3 r3 er3).tb q_TB0_le)).le (Nat.le_of_ble_eq_true rfl)
                show q_Ru _ _ _ (38, [(0, .ref 64), (1, .int a1), (2, .int a2), (3, .int a3)], [.int r3.2], (q_kX (q_pt 32 3 1 73 r2 r3.1) c n)) _
                exact q_Ru_ret rfl rfl
              show q_RP _ _ _ (10, [(0, .ref 64), (1, .int a1), (2, .int a2), (3, .int a3), (4, .ref 236)], [.int r3.2, .int 0, .ref 236], (q_kX (q_pt 32 3 1 73 r2 r3.1) c n)) _ _
              refine q_RP_seg (g2 := (11, [(0, .ref 64), (1, .int a1), (2, .int a2), (3, .int a3), (4, .ref 236)], [.long r3.2.toInt64, .int 0, .ref 236], (q_kX (q_pt 32 3 1 73 r2 r3.1) c n))) 1 (fun _ _ => rfl) ?_
              refine q_RP_rsT (g2 := (12, [(0, .ref 64), (1, .int a1), (2, .int a2), (3, .int a3), (4, .ref 236)], [], (q_kX (q_sL (q_pt 32 3 1 73 r2 r3.1) 172 (vp_updL ((q_pt 32 3 1 73 r2 r3.1).2.2 172) 0 r3.2.toInt64)) c n))) rfl q_wX172 rfl ?_
              refine q_RP_seg (g2 := (24, [(0, .ref 64), (1, .int a1), (2, .int a2), (3, .int a3), (4, .ref 236)], [.int 0], (q_kX (q_sL (q_pt 32 3 1 73 r2 r3.1) 172 (vp_updL ((q_pt 32 3 1 73 r2 r3.1).2.2 172) 0 r3.2.toInt64)) c n))) 2 (fun _ _ => rfl) ?_
              exact q_RP_ret rfl rfl rfl
        | false =>
          refine q_RP_cF ?_
          refine q_RP_callH (E := "java/lang/IndexOutOfBoundsException") (tg := 17) (i := 5) (h2 := (q_kX s (c + 1) (n + 6))) rfl rfl ?_ rfl ?_
          · refine q_Ca_of (Nat.le_of_ble_eq_true rfl) ?_
            refine q_Ru_seg (g2 := (2, [(0, .ref 64), (1, .int a1), (2, .int a2), (3, .int a3)], [.int 4, .int a1], (q_kX s c n))) 2 (fun _ _ => rfl) ?_
            refine q_Ru_call (v := none) (h2 := (q_kX s c n)) rfl rfl ?_ ?_
            · refine q_Ca_of (Nat.le_of_ble_eq_true rfl) ?_
              refine q_Ru_seg (g2 := (1, [(0, .int a1), (1, .int 4)], [.int a1], (q_kX s c n))) 1 (fun _ _ => rfl) ?_
              refine q_Ru_rsF (g2 := (4, [(0, .int a1), (1, .int 4)], [], (q_kX s c n))) rfl rfl h7 ?_
              refine q_Ru_seg (g2 := (6, [(0, .int a1), (1, .int 4)], [.int 4, .int a1], (q_kX s c n))) 2 (fun _ _ => rfl) ?_
              refine q_Ru_rsT (g2 := (19, [(0, .int a1), (1, .int 4)], [], (q_kX s c n))) rfl rfl h8 ?_
              exact q_Ru_ret rfl rfl
            show q_Ru _ _ _ (5, [(0, .ref 64), (1, .int a1), (2, .int a2), (3, .int a3)], [], (q_kX s c n)) _
            refine q_Ru_seg (g2 := (9, [(0, .ref 64), (1, .int a1), (2, .int a2), (3, .int a3)], [.int 512, .int a2], (q_kX s c n))) 2 (fun _ _ => rfl) ?_
            refine q_Ru_callX (E := "java/lang/IndexOutOfBoundsException") (h2 := (q_kX s (c + 1) (n + 6))) rfl rfl ?_
            refine q_Ca_of (Nat.le_of_ble_eq_true rfl) ?_
            refine q_Ru_seg (g2 := (1, [(0, .int a2), (1, .int 512)], [.int a2], (q_kX s c n))) 1 (fun _ _ => rfl) ?_
            refine q_Ru_rsF (g2 := (4, [(0, .int a2), (1, .int 512)], [], (q_kX s c n))) rfl rfl h9 ?_
            refine q_Ru_seg (g2 := (6, [(0, .int a2), (1, .int 512)], [.int 512, .int a2], (q_kX s c n))) 2 (fun _ _ => rfl) ?_
            refine q_Ru_rsF (g2 := (9, [(0, .int a2), (1, .int 512)], [], (q_kX s c n))) rfl rfl h10 ?_
            exact q_Ru_thr rfl rfl
          show q_RP _ _ _ (17, [(0, .ref 64), (1, .int a1), (2, .int a2), (3, .int a3), (4, .ref 236)], [], (q_kX s (c + 1) (n + 6))) _ _
          refine q_RP_seg (g2 := (18, [(0, .ref 64), (1, .int a1), (2, .int a2), (3, .int a3), (4, .ref 236)], [.int 1], (q_kX s (c + 1) (n + 6)))) 1 (fun _ _ => rfl) ?_
          exact q_RP_ret rfl rfl rfl
    | false =>
      refine q_RP_cF ?_
      refine q_RP_callH (E := "java/lang/IndexOutOfBoundsException") (tg := 17) (i := 5) (h2 := (q_kX s (c + 1) (n + 6))) rfl rfl ?_ rfl ?_
      · refine q_Ca_of (Nat.le_of_ble_eq_true rfl) ?_
        refine q_Ru_seg (g2 := (2, [(0, .ref 64), (1, .int a1), (2, .int a2), (3, .int a3)], [.int 4, .int a1], (q_kX s c n))) 2 (fun _ _ => rfl) ?_
        refine q_Ru_callX (E := "java/lang/IndexOutOfBoundsException") (h2 := (q_kX s (c + 1) (n + 6))) rfl rfl ?_
        refine q_Ca_of (Nat.le_of_ble_eq_true rfl) ?_
        refine q_Ru_seg (g2 := (1, [(0, .int a1), (1, .int 4)], [.int a1], (q_kX s c n))) 1 (fun _ _ => rfl) ?_
        refine q_Ru_rsF (g2 := (4, [(0, .int a1), (1, .int 4)], [], (q_kX s c n))) rfl rfl h7 ?_
        refine q_Ru_seg (g2 := (6, [(0, .int a1), (1, .int 4)], [.int 4, .int a1], (q_kX s c n))) 2 (fun _ _ => rfl) ?_
        refine q_Ru_rsF (g2 := (9, [(0, .int a1), (1, .int 4)], [], (q_kX s c n))) rfl rfl h8 ?_
        exact q_Ru_thr rfl rfl
      show q_RP _ _ _ (17, [(0, .ref 64), (1, .int a1), (2, .int a2), (3, .int a3), (4, .ref 236)], [], (q_kX s (c + 1) (n + 6))) _ _
      refine q_RP_seg (g2 := (18, [(0, .ref 64), (1, .int a1), (2, .int a2), (3, .int a3), (4, .ref 236)], [.int 1], (q_kX s (c + 1) (n + 6)))) 1 (fun _ _ => rfl) ?_
      exact q_RP_ret rfl rfl rfl
def dz_X3_64_236 (s : q_S) (a1 : Int32) : Option (q_S × Int32 × Nat) :=
  cond (decide (a1 < 0)) (some (s, 1, 1)) (cond (decide (a1 < 4096)) ((dz_N90_65 (q_vw 32 1 73 s) a1).bind fun r1 => some ((q_sL s 172 (vp_updL (s.2.2 172) 0 r1.toInt64)), 0, 0)) (some (s, 1, 1)))
set_option maxHeartbeats 4000000 in
theorem dzt_X3_64_236 (z L : Nat) (xs : Nat → Int32) (s : q_S) (c n : Nat) (a1 : Int32) (x : q_S × Int32 × Nat) (h : dz_X3_64_236 s a1 = some x) : q_Ca (q_TBs z L xs) 5 3 [.ref 64, .int a1, .ref 236] (q_kX s c n) ((q_oEX c n) x) := by
  refine q_CaP_of (φ := (q_oEX c n)) (Nat.le_of_ble_eq_true rfl) ?_ h
  clear h
  unfold dz_X3_64_236
  refine q_RP_seg (g2 := (4, [(0, .ref 64), (1, .int a1), (2, .ref 236)], [.int a1, .ref 64, .int 0, .ref 236], (q_kX s c n))) 4 (fun _ _ => rfl) ?_
  cases h3 : decide (a1 < 0) with
  | true =>
    refine q_RP_cT ?_
    refine q_RP_callH (E := "java/lang/IndexOutOfBoundsException") (tg := 13) (i := 3) (h2 := (q_kX s (c + 1) (n + 6))) rfl rfl ?_ rfl ?_
    · refine q_Ca_of (Nat.le_of_ble_eq_true rfl) ?_
      refine q_Ru_seg (g2 := (1, [(0, .ref 64), (1, .int a1)], [.int a1], (q_kX s c n))) 1 (fun _ _ => rfl) ?_
      refine q_Ru_callX (E := "java/lang/IndexOutOfBoundsException") (h2 := (q_kX s (c + 1) (n + 6))) rfl rfl ?_
      refine q_Ca_of (Nat.le_of_ble_eq_true rfl) ?_
      refine q_Ru_seg (g2 := (4, [(0, .int a1)], [.int 4096, .int a1], (q_kX s c n))) 2 (fun _ _ => rfl) ?_
      refine q_Ru_callX (E := "java/lang/IndexOutOfBoundsException") (h2 := (q_kX s (c + 1) (n + 6))) rfl rfl ?_
      refine q_Ca_of (Nat.le_of_ble_eq_true rfl) ?_
      refine q_Ru_seg (g2 := (1, [(0, .int a1), (1, .int 4096)], [.int a1], (q_kX s c n))) 1 (fun _ _ => rfl) ?_
      refine q_Ru_rsT (g2 := (9, [(0, .int a1), (1, .int 4096)], [], (q_kX s c n))) rfl rfl h3 ?_
      exact q_Ru_thr rfl rfl
    show q_RP _ _ _ (13, [(0, .ref 64), (1, .int a1), (2, .ref 236)], [], (q_kX s (c + 1) (n + 6))) _ _
    refine q_RP_seg (g2 := (14, [(0, .ref 64), (1, .int a1), (2, .ref 236)], [.int 1], (q_kX s (c + 1) (n + 6)))) 1 (fun _ _ => rfl) ?_
    exact q_RP_ret rfl rfl rfl
  | false =>
    refine q_RP_cF ?_
    cases h4 : decide (a1 < 4096) with
    | true =>
      refine q_RP_cT ?_
      refine q_RP_bd fun r1 er1 => ?_
      refine q_RP_call (v := (some (.int r1))) (h2 := (q_kX s c n)) rfl rfl ?_ ?_
      · refine q_Ca_of (Nat.le_of_ble_eq_true rfl) ?_
        refine q_Ru_seg (g2 := (1, [(0, .ref 64), (1, .int a1)], [.int a1], (q_kX s c n))) 1 (fun _ _ => rfl) ?_
        refine q_Ru_call (v := none) (h2 := (q_kX s c n)) rfl rfl ?_ ?_
        · refine q_Ca_of (Nat.le_of_ble_eq_true rfl) ?_
          refine q_Ru_seg (g2 := (4, [(0, .int a1)], [.int 4096, .int a1], (q_kX s c n))) 2 (fun _ _ => rfl) ?_
          refine q_Ru_call (v := none) (h2 := (q_kX s c n)) rfl rfl ?_ ?_
          · refine q_Ca_of (Nat.le_of_ble_eq_true rfl) ?_
            refine q_Ru_seg (g2 := (1, [(0, .int a1), (1, .int 4096)], [.int a1], (q_kX s c n))) 1 (fun _ _ => rfl) ?_
            refine q_Ru_rsF (g2 := (4, [(0, .int a1), (1, .int 4096)], [], (q_kX s c n))) rfl rfl h3 ?_
            refine q_Ru_seg (g2 := (6, [(0, .int a1), (1, .int 4096)], [.int 4096, .int a1], (q_kX s c n))) 2 (fun _ _ => rfl) ?_
            refine q_Ru_rsT (g2 := (19, [(0, .int a1), (1, .int 4096)], [], (q_kX s c n))) rfl rfl h4 ?_
            exact q_Ru_ret rfl rfl
          show q_Ru _ _ _ (7, [(0, .int a1)], [], (q_kX s c n)) _
          exact q_Ru_ret rfl rfl
        show q_Ru _ _ _ (4, [(0, .ref 64), (1, .int a1)], [], (q_kX s c n)) _
        refine q_Ru_seg (g2 := (12, [(0, .ref 64), (1, .int a1)], [.int a1, .ref 66], (q_kX s c n))) 4 (fun _ _ => rfl) ?_
        refine q_Ru_call (v := (some (.int r1))) (h2 := (q_kX s c n)) rfl rfl ?_ ?_
        · exact (q_emNX_1p rfl (fun _ => rfl) ((dzt_N90_65 (q_vw 32 1 73 s) c n a1 r1 er1).tb q_TB0_le)).le (Nat.le_of_ble_eq_true rfl)
        show q_Ru _ _ _ (15, [(0, .ref 64), (1, .int a1)], [.int r1], (q_kX s c n)) _
        exact q_Ru_ret rfl rfl
      show q_RP _ _ _ (7, [(0, .ref 64), (1, .int a1), (2, .ref 236)], [.int r1, .int 0, .ref 236], (q_kX s c n)) _ _
      refine q_RP_seg (g2 := (8, [(0, .ref 64), (1, .int a1), (2, .ref 236)], [.long r1.toInt64, .int 0, .ref 236], (q_kX s c n))) 1 (fun _ _ => rfl) ?_
      refine q_RP_rsT (g2 := (9, [(0, .ref 64), (1, .int a1), (2, .ref 236)], [], (q_kX (q_sL s 172 (vp_updL (s.2.2 172) 0 r1.toInt64)) c n))) rfl q_wX172 rfl ?_
      refine q_RP_seg (g2 := (16, [(0, .ref 64), (1, .int a1), (2, .ref 236)], [.int 0], (q_kX (q_sL s 172 (vp_updL (s.2.2 172) 0 r1.toInt64)) c n))) 2 (fun _ _ => rfl) ?_
      exact q_RP_ret rfl rfl rfl
    | false =>
      refine q_RP_cF ?_
      refine q_RP_callH (E := "java/lang/IndexOutOfBoundsException") (tg := 13) (i := 3) (h2 := (q_kX s (c + 1) (n + 6))) rfl rfl ?_ rfl ?_
      · refine q_Ca_of (Nat.le_of_ble_eq_true rfl) ?_
        refine q_Ru_seg (g2 := (1, [(0, .ref 64), (1, .int a1)], [.int a1], (q_kX s c n))) 1 (fun _ _ => rfl) ?_
        refine q_Ru_callX (E := "java/lang/IndexOutOfBoundsException") (h2 := (q_kX s (c + 1) (n + 6))) rfl rfl ?_
        refine q_Ca_of (Nat.le_of_ble_eq_true rfl) ?_
        refine q_Ru_seg (g2 := (4, [(0, .int a1)], [.int 4096, .int a1], (q_kX s c n))) 2 (fun _ _ => rfl) ?_
        refine q_Ru_callX (E := "java/lang/IndexOutOfBoundsException") (h2 := (q_kX s (c + 1) (n + 6))) rfl rfl ?_
        refine q_Ca_of (Nat.le_of_ble_eq_true rfl) ?_
        refine q_Ru_seg (g2 := (1, [(0, .int a1), (1, .int 4096)], [.int a1], (q_kX s c n))) 1 (fun _ _ => rfl) ?_
        refine q_Ru_rsF (g2 := (4, [(0, .int a1), (1, .int 4096)], [], (q_kX s c n))) rfl rfl h3 ?_
        refine q_Ru_seg (g2 := (6, [(0, .int a1), (1, .int 4096)], [.int 4096, .int a1], (q_kX s c n))) 2 (fun _ _ => rfl) ?_
        refine q_Ru_rsF (g2 := (9, [(0, .int a1), (1, .int 4096)], [], (q_kX s c n))) rfl rfl h4 ?_
        exact q_Ru_thr rfl rfl
      show q_RP _ _ _ (13, [(0, .ref 64), (1, .int a1), (2, .ref 236)], [], (q_kX s (c + 1) (n + 6))) _ _
      refine q_RP_seg (g2 := (14, [(0, .ref 64), (1, .int a1), (2, .ref 236)], [.int 1], (q_kX s (c + 1) (n + 6)))) 1 (fun _ _ => rfl) ?_
      exact q_RP_ret rfl rfl rfl
def dz_X4_64_236 (s : q_S) (a1 : Int32) : q_S × Int32 × Nat :=
  cond (decide (a1 < 0)) ((s, 1, 1)) (cond (decide (a1 < 4096)) (((q_sL s 172 (vp_updL (s.2.2 172) 0 (((s.1 4) ((a1 &&& 4095).toNatClampNeg)).toInt64))), 0, 0)) ((s, 1, 1)))
set_option maxHeartbeats 4000000 in
theorem dzt_X4_64_236 (z L : Nat) (xs : Nat → Int32) (s : q_S) (c n : Nat) (a1 : Int32) : q_Ca (q_TBs z L xs) 4 4 [.ref 64, .int a1, .ref 236] (q_kX s c n) ((q_oEX c n) (dz_X4_64_236 s a1)) := by
  refine q_CaT_of (φ := (q_oEX c n)) (Nat.le_of_ble_eq_true rfl) ?_
  unfold dz_X4_64_236
  refine q_RT_seg (g2 := (4, [(0, .ref 64), (1, .int a1), (2, .ref 236)], [.int a1, .ref 64, .int 0, .ref 236], (q_kX s c n))) 4 (fun _ _ => rfl) ?_
  cases h1 : decide (a1 < 0) with
  | true =>
    refine q_RT_cT ?_
    refine q_RT_callH (E := "java/lang/IndexOutOfBoundsException") (tg := 13) (i := 3) (h2 := (q_kX s (c + 1) (n + 6))) rfl rfl ?_ rfl ?_
    · refine q_Ca_of (Nat.le_of_ble_eq_true rfl) ?_
      refine q_Ru_seg (g2 := (1, [(0, .ref 64), (1, .int a1)], [.int a1], (q_kX s c n))) 1 (fun _ _ => rfl) ?_
      refine q_Ru_callX (E := "java/lang/IndexOutOfBoundsException") (h2 := (q_kX s (c + 1) (n + 6))) rfl rfl ?_
      refine q_Ca_of (Nat.le_of_ble_eq_true rfl) ?_
      refine q_Ru_seg (g2 := (4, [(0, .int a1)], [.int 4096, .int a1], (q_kX s c n))) 2 (fun _ _ => rfl) ?_
      refine q_Ru_callX (E := "java/lang/IndexOutOfBoundsException") (h2 := (q_kX s (c + 1) (n + 6))) rfl rfl ?_
      refine q_Ca_of (Nat.le_of_ble_eq_true rfl) ?_
      refine q_Ru_seg (g2 := (1, [(0, .int a1), (1, .int 4096)], [.int a1], (q_kX s c n))) 1 (fun _ _ => rfl) ?_
      refine q_Ru_rsT (g2 := (9, [(0, .int a1), (1, .int 4096)], [], (q_kX s c n))) rfl rfl h1 ?_
      exact q_Ru_thr rfl rfl
    show q_RT _ _ _ (13, [(0, .ref 64), (1, .int a1), (2, .ref 236)], [], (q_kX s (c + 1) (n + 6))) _ _
    refine q_RT_seg (g2 := (14, [(0, .ref 64), (1, .int a1), (2, .ref 236)], [.int 1], (q_kX s (c + 1) (n + 6)))) 1 (fun _ _ => rfl) ?_
    exact q_RT_ret rfl rfl rfl
  | false =>
    refine q_RT_cF ?_
    cases h2 : decide (a1 < 4096) with
    | true =>
      refine q_RT_cT ?_
      refine q_RT_call (v := (some (.int ((s.1 4) ((a1 &&& 4095).toNatClampNeg))))) (h2 := (q_kX s c n)) rfl rfl ?_ ?_
      · refine q_Ca_of (Nat.le_of_ble_eq_true rfl) ?_
        refine q_Ru_seg (g2 := (1, [(0, .ref 64), (1, .int a1)], [.int a1], (q_kX s c n))) 1 (fun _ _ => rfl) ?_
        refine q_Ru_call (v := none) (h2 := (q_kX s c n)) rfl rfl ?_ ?_
        · refine q_Ca_of (Nat.le_of_ble_eq_true rfl) ?_
          refine q_Ru_seg (g2 := (4, [(0, .int a1)], [.int 4096, .int a1], (q_kX s c n))) 2 (fun _ _ => rfl) ?_
          refine q_Ru_call (v := none) (h2 := (q_kX s c n)) rfl rfl ?_ ?_
          · refine q_Ca_of (Nat.le_of_ble_eq_true rfl) ?_
            refine q_Ru_seg (g2 := (1, [(0, .int a1), (1, .int 4096)], [.int a1], (q_kX s c n))) 1 (fun _ _ => rfl) ?_
            refine q_Ru_rsF (g2 := (4, [(0, .int a1), (1, .int 4096)], [], (q_kX s c n))) rfl rfl h1 ?_
            refine q_Ru_seg (g2 := (6, [(0, .int a1), (1, .int 4096)], [.int 4096, .int a1], (q_kX s c n))) 2 (fun _ _ => rfl) ?_
            refine q_Ru_rsT (g2 := (19, [(0, .int a1), (1, .int 4096)], [], (q_kX s c n))) rfl rfl h2 ?_
            exact q_Ru_ret rfl rfl
          show q_Ru _ _ _ (7, [(0, .int a1)], [], (q_kX s c n)) _
          exact q_Ru_ret rfl rfl
        show q_Ru _ _ _ (4, [(0, .ref 64), (1, .int a1)], [], (q_kX s c n)) _
        refine q_Ru_seg (g2 := (22, [(0, .ref 64), (1, .int a1)], [.int (a1 &&& 4095), .ref 68], (q_kX s c n))) 8 (fun _ _ => rfl) ?_
        refine q_Ru_rsT (g2 := (23, [(0, .ref 64), (1, .int a1)], [.int ((s.1 4) ((a1 &&& 4095).toNatClampNeg))], (q_kX s c n))) rfl rfl (q_in_bd (x := a1 &&& 4095) (n := 4096) (U := 4095) (L := 0) (q_and_lo a1 4095) (q_and_hi a1 4095 4095)) ?_
        exact q_Ru_ret rfl rfl
      show q_RT _ _ _ (7, [(0, .ref 64), (1, .int a1), (2, .ref 236)], [.int ((s.1 4) ((a1 &&& 4095).toNatClampNeg)), .int 0, .ref 236], (q_kX s c n)) _ _
      refine q_RT_seg (g2 := (8, [(0, .ref 64), (1, .int a1), (2, .ref 236)], [.long (((s.1 4) ((a1 &&& 4095).toNatClampNeg)).toInt64), .int 0, .ref 236], (q_kX s c n))) 1 (fun _ _ => rfl) ?_
      refine q_RT_rsT (g2 := (9, [(0, .ref 64), (1, .int a1), (2, .ref 236)], [], (q_kX (q_sL s 172 (vp_updL (s.2.2 172) 0 (((s.1 4) ((a1 &&& 4095).toNatClampNeg)).toInt64))) c n))) rfl q_wX172 rfl ?_
      refine q_RT_seg (g2 := (16, [(0, .ref 64), (1, .int a1), (2, .ref 236)], [.int 0], (q_kX (q_sL s 172 (vp_updL (s.2.2 172) 0 (((s.1 4) ((a1 &&& 4095).toNatClampNeg)).toInt64))) c n))) 2 (fun _ _ => rfl) ?_
      exact q_RT_ret rfl rfl rfl
    | false =>
      refine q_RT_cF ?_
      refine q_RT_callH (E := "java/lang/IndexOutOfBoundsException") (tg := 13) (i := 3) (h2 := (q_kX s (c + 1) (n + 6))) rfl rfl ?_ rfl ?_
      · refine q_Ca_of (Nat.le_of_ble_eq_true rfl) ?_
        refine q_Ru_seg (g2 := (1, [(0, .ref 64), (1, .int a1)], [.int a1], (q_kX s c n))) 1 (fun _ _ => rfl) ?_
        refine q_Ru_callX (E := "java/lang/IndexOutOfBoundsException") (h2 := (q_kX s (c + 1) (n + 6))) rfl rfl ?_
        refine q_Ca_of (Nat.le_of_ble_eq_true rfl) ?_
        refine q_Ru_seg (g2 := (4, [(0, .int a1)], [.int 4096, .int a1], (q_kX s c n))) 2 (fun _ _ => rfl) ?_
        refine q_Ru_callX (E := "java/lang/IndexOutOfBoundsException") (h2 := (q_kX s (c + 1) (n + 6))) rfl rfl ?_
        refine q_Ca_of (Nat.le_of_ble_eq_true rfl) ?_
        refine q_Ru_seg (g2 := (1, [(0, .int a1), (1, .int 4096)], [.int a1], (q_kX s c n))) 1 (fun _ _ => rfl) ?_
        refine q_Ru_rsF (g2 := (4, [(0, .int a1), (1, .int 4096)], [], (q_kX s c n))) rfl rfl h1 ?_
        refine q_Ru_seg (g2 := (6, [(0, .int a1), (1, .int 4096)], [.int 4096, .int a1], (q_kX s c n))) 2 (fun _ _ => rfl) ?_
        refine q_Ru_rsF (g2 := (9, [(0, .int a1), (1, .int 4096)], [], (q_kX s c n))) rfl rfl h2 ?_
        exact q_Ru_thr rfl rfl
      show q_RT _ _ _ (13, [(0, .ref 64), (1, .int a1), (2, .ref 236)], [], (q_kX s (c + 1) (n + 6))) _ _
      refine q_RT_seg (g2 := (14, [(0, .ref 64), (1, .int a1), (2, .ref 236)], [.int 1], (q_kX s (c + 1) (n + 6)))) 1 (fun _ _ => rfl) ?_
      exact q_RT_ret rfl rfl rfl
def dz_X5_64_236 (s : q_S) (a1 : Int32) (a2 : Int32) (a3 : Int32) : Option (q_S × Int32 × Nat) :=
  cond (decide (a1 < 0)) (some (s, 1, 1)) (cond (decide (a1 < 4096)) (cond (decide (a2 < 0)) (some (s, 2, 1)) (cond (decide (255 < a2)) (some (s, 2, 1)) (cond (decide (a3 < 0)) (some (s, 2, 1)) (cond (decide (4095 < a3)) (some (s, 2, 1)) (q_let (dz_N190 (q_vw 32 1 73 s) a2) fun r3 => cond (decide (r3 = 2)) (cond (decide (255 < a3)) (some (s, 2, 1)) (q_let (dz_X184_98 s 3 a1 a2 a3) fun r4 => (dz_N79_64 (q_vw 32 1 73 r4) 3 a1 a2 a3).bind fun r5 => some ((q_sL (q_pt 32 3 1 73 r4 r5.1) 172 (vp_updL ((q_pt 32 3 1 73 r4 r5.1).2.2 172) 0 r5.2.toInt64)), 0, 0))) (q_let (dz_X184_98 s 3 a1 a2 a3) fun r6 => (dz_N79_64 (q_vw 32 1 73 r6) 3 a1 a2 a3).bind fun r7 => some ((q_sL (q_pt 32 3 1 73 r6 r7.1) 172 (vp_updL ((q_pt 32 3 1 73 r6 r7.1).2.2 172) 0 r7.2.toInt64)), 0, 0))))))) (some (s, 1, 1)))
set_option maxHeartbeats 4000000 in
theorem dzt_X5_64_236 (z L : Nat) (xs : Nat → Int32) (s : q_S) (c n : Nat) (a1 : Int32) (a2 : Int32) (a3 : Int32) (x : q_S × Int32 × Nat) (h : dz_X5_64_236 s a1 a2 a3 = some x) : q_Ca (q_TBs z L xs) 10 5 [.ref 64, .int a1, .int a2, .int a3, .ref 236] (q_kX s c n) ((q_oEX c n) x) := by
  refine q_CaP_of (φ := (q_oEX c n)) (Nat.le_of_ble_eq_true rfl) ?_ h
  clear h
  unfold dz_X5_64_236
  refine q_RP_seg (g2 := (7, [(0, .ref 64), (1, .int a1), (2, .int a2), (3, .int a3), (4, .ref 236)], [.int a3, .int a2, .int a1, .ref 64, .int 0, .ref 236], (q_kX s c n))) 6 (fun _ _ => rfl) ?_
  cases h9 : decide (a1 < 0) with
  | true =>
    refine q_RP_cT ?_
    refine q_RP_callH (E := "java/lang/IndexOutOfBoundsException") (tg := 17) (i := 5) (h2 := (q_kX s (c + 1) (n + 6))) rfl rfl ?_ rfl ?_
    · refine q_Ca_of (Nat.le_of_ble_eq_true rfl) ?_
      refine q_Ru_seg (g2 := (1, [(0, .ref 64), (1, .int a1), (2, .int a2), (3, .int a3)], [.int a1], (q_kX s c n))) 1 (fun _ _ => rfl) ?_
      refine q_Ru_callX (E := "java/lang/IndexOutOfBoundsException") (h2 := (q_kX s (c + 1) (n + 6))) rfl rfl ?_
      refine q_Ca_of (Nat.le_of_ble_eq_true rfl) ?_
      refine q_Ru_seg (g2 := (4, [(0, .int a1)], [.int 4096, .int a1], (q_kX s c n))) 2 (fun _ _ => rfl) ?_
      refine q_Ru_callX (E := "java/lang/IndexOutOfBoundsException") (h2 := (q_kX s (c + 1) (n + 6))) rfl rfl ?_
      refine q_Ca_of (Nat.le_of_ble_eq_true rfl) ?_
      refine q_Ru_seg (g2 := (1, [(0, .int a1), (1, .int 4096)], [.int a1], (q_kX s c n))) 1 (fun _ _ => rfl) ?_
      refine q_Ru_rsT (g2 := (9, [(0, .int a1), (1, .int 4096)], [], (q_kX s c n))) rfl rfl h9 ?_
      exact q_Ru_thr rfl rfl
    show q_RP _ _ _ (17, [(0, .ref 64), (1, .int a1), (2, .int a2), (3, .int a3), (4, .ref 236)], [], (q_kX s (c + 1) (n + 6))) _ _
    refine q_RP_seg (g2 := (18, [(0, .ref 64), (1, .int a1), (2, .int a2), (3, .int a3), (4, .ref 236)], [.int 1], (q_kX s (c + 1) (n + 6)))) 1 (fun _ _ => rfl) ?_
    exact q_RP_ret rfl rfl rfl
  | false =>
    refine q_RP_cF ?_
    cases h10 : decide (a1 < 4096) with
    | true =>
      refine q_RP_cT ?_
      cases h11 : decide (a2 < 0) with
      | true =>
        refine q_RP_cT ?_
        refine q_RP_callH (E := "java/lang/IllegalArgumentException") (tg := 21) (i := 5) (h2 := (q_kX s (c + 1) (n + 6))) rfl rfl ?_ rfl ?_
        · refine q_Ca_of (Nat.le_of_ble_eq_true rfl) ?_
          refine q_Ru_seg (g2 := (1, [(0, .ref 64), (1, .int a1), (2, .int a2), (3, .int a3)], [.int a1], (q_kX s c n))) 1 (fun _ _ => rfl) ?_
          refine q_Ru_call (v := none) (h2 := (q_kX s c n)) rfl rfl ?_ ?_
          · refine q_Ca_of (Nat.le_of_ble_eq_true rfl) ?_
            refine q_Ru_seg (g2 := (4, [(0, .int a1)], [.int 4096, .int a1], (q_kX s c n))) 2 (fun _ _ => rfl) ?_
            refine q_Ru_call (v := none) (h2 := (q_kX s c n)) rfl rfl ?_ ?_
            · refine q_Ca_of (Nat.le_of_ble_eq_true rfl) ?_
              refine q_Ru_seg (g2 := (1, [(0, .int a1), (1, .int 4096)], [.int a1], (q_kX s c n))) 1 (fun _ _ => rfl) ?_
              refine q_Ru_rsF (g2 := (4, [(0, .int a1), (1, .int 4096)], [], (q_kX s c n))) rfl rfl h9 ?_
              refine q_Ru_seg (g2 := (6, [(0, .int a1), (1, .int 4096)], [.int 4096, .int a1], (q_kX s c n))) 2 (fun _ _ => rfl) ?_
              refine q_Ru_rsT (g2 := (19, [(0, .int a1), (1, .int 4096)], [], (q_kX s c n))) rfl rfl h10 ?_
              exact q_Ru_ret rfl rfl
            show q_Ru _ _ _ (7, [(0, .int a1)], [], (q_kX s c n)) _
            exact q_Ru_ret rfl rfl
          show q_Ru _ _ _ (4, [(0, .ref 64), (1, .int a1), (2, .int a2), (3, .int a3)], [], (q_kX s c n)) _
          refine q_Ru_seg (g2 := (5, [(0, .ref 64), (1, .int a1), (2, .int a2), (3, .int a3)], [.int a2], (q_kX s c n))) 1 (fun _ _ => rfl) ?_
          refine q_Ru_callX (E := "java/lang/IllegalArgumentException") (h2 := (q_kX s (c + 1) (n + 6))) rfl rfl ?_
          refine q_Ca_of (Nat.le_of_ble_eq_true rfl) ?_
          refine q_Ru_seg (g2 := (5, [(0, .int a2)], [.int 255, .int 0, .int a2], (q_kX s c n))) 3 (fun _ _ => rfl) ?_
          refine q_Ru_callX (E := "java/lang/IllegalArgumentException") (h2 := (q_kX s (c + 1) (n + 6))) rfl rfl ?_
          refine q_Ca_of (Nat.le_of_ble_eq_true rfl) ?_
          refine q_Ru_seg (g2 := (2, [(0, .int a2), (1, .int 0), (2, .int 255)], [.int 0, .int a2], (q_kX s c n))) 2 (fun _ _ => rfl) ?_
          refine q_Ru_rsT (g2 := (10, [(0, .int a2), (1, .int 0), (2, .int 255)], [], (q_kX s c n))) rfl rfl h11 ?_
          exact q_Ru_thr rfl rfl
        show q_RP _ _ _ (21, [(0, .ref 64), (1, .int a1), (2, .int a2), (3, .int a3), (4, .ref 236)], [], (q_kX s (c + 1) (n + 6))) _ _
        refine q_RP_seg (g2 := (22, [(0, .ref 64), (1, .int a1), (2, .int a2), (3, .int a3), (4, .ref 236)], [.int 2], (q_kX s (c + 1) (n + 6)))) 1 (fun _ _ => rfl) ?_
        exact q_RP_ret rfl rfl rfl
      | false =>
        refine q_RP_cF ?_
        cases h12 : decide (255 < a2) with
        | true =>
          refine q_RP_cT ?_
          refine q_RP_callH (E := "java/lang/IllegalArgumentException") (tg := 21) (i := 5) (h2 := (q_kX s (c + 1) (n + 6))) rfl rfl ?_ rfl ?_
          · refine q_Ca_of (Nat.le_of_ble_eq_true rfl) ?_
            refine q_Ru_seg (g2 := (1, [(0, .ref 64), (1, .int a1), (2, .int a2), (3, .int a3)], [.int a1], (q_kX s c n))) 1 (fun _ _ => rfl) ?_
            refine q_Ru_call (v := none) (h2 := (q_kX s c n)) rfl rfl ?_ ?_
            · refine q_Ca_of (Nat.le_of_ble_eq_true rfl) ?_
              refine q_Ru_seg (g2 := (4, [(0, .int a1)], [.int 4096, .int a1], (q_kX s c n))) 2 (fun _ _ => rfl) ?_
              refine q_Ru_call (v := none) (h2 := (q_kX s c n)) rfl rfl ?_ ?_
              · refine q_Ca_of (Nat.le_of_ble_eq_true rfl) ?_
                refine q_Ru_seg (g2 := (1, [(0, .int a1), (1, .int 4096)], [.int a1], (q_kX s c n))) 1 (fun _ _ => rfl) ?_
                refine q_Ru_rsF (g2 := (4, [(0, .int a1), (1, .int 4096)], [], (q_kX s c n))) rfl rfl h9 ?_
                refine q_Ru_seg (g2 := (6, [(0, .int a1), (1, .int 4096)], [.int 4096, .int a1], (q_kX s c n))) 2 (fun _ _ => rfl) ?_
                refine q_Ru_rsT (g2 := (19, [(0, .int a1), (1, .int 4096)], [], (q_kX s c n))) rfl rfl h10 ?_
                exact q_Ru_ret rfl rfl
              show q_Ru _ _ _ (7, [(0, .int a1)], [], (q_kX s c n)) _
              exact q_Ru_ret rfl rfl
            show q_Ru _ _ _ (4, [(0, .ref 64), (1, .int a1), (2, .int a2), (3, .int a3)], [], (q_kX s c n)) _
            refine q_Ru_seg (g2 := (5, [(0, .ref 64), (1, .int a1), (2, .int a2), (3, .int a3)], [.int a2], (q_kX s c n))) 1 (fun _ _ => rfl) ?_
            refine q_Ru_callX (E := "java/lang/IllegalArgumentException") (h2 := (q_kX s (c + 1) (n + 6))) rfl rfl ?_
            refine q_Ca_of (Nat.le_of_ble_eq_true rfl) ?_
            refine q_Ru_seg (g2 := (5, [(0, .int a2)], [.int 255, .int 0, .int a2], (q_kX s c n))) 3 (fun _ _ => rfl) ?_
            refine q_Ru_callX (E := "java/lang/IllegalArgumentException") (h2 := (q_kX s (c + 1) (n + 6))) rfl rfl ?_
            refine q_Ca_of (Nat.le_of_ble_eq_true rfl) ?_
            refine q_Ru_seg (g2 := (2, [(0, .int a2), (1, .int 0), (2, .int 255)], [.int 0, .int a2], (q_kX s c n))) 2 (fun _ _ => rfl) ?_
            refine q_Ru_rsF (g2 := (5, [(0, .int a2), (1, .int 0), (2, .int 255)], [], (q_kX s c n))) rfl rfl h11 ?_
            refine q_Ru_seg (g2 := (7, [(0, .int a2), (1, .int 0), (2, .int 255)], [.int 255, .int a2], (q_kX s c n))) 2 (fun _ _ => rfl) ?_
            refine q_Ru_rsF (g2 := (10, [(0, .int a2), (1, .int 0), (2, .int 255)], [], (q_kX s c n))) rfl rfl (q_d_geT h12) ?_
            exact q_Ru_thr rfl rfl
          show q_RP _ _ _ (21, [(0, .ref 64), (1, .int a1), (2, .int a2), (3, .int a3), (4, .ref 236)], [], (q_kX s (c + 1) (n + 6))) _ _
          refine q_RP_seg (g2 := (22, [(0, .ref 64), (1, .int a1), (2, .int a2), (3, .int a3), (4, .ref 236)], [.int 2], (q_kX s (c + 1) (n + 6)))) 1 (fun _ _ => rfl) ?_
          exact q_RP_ret rfl rfl rfl
        | false =>
          refine q_RP_cF ?_
          cases h13 : decide (a3 < 0) with
          | true =>
            refine q_RP_cT ?_
            refine q_RP_callH (E := "java/lang/IllegalArgumentException") (tg := 21) (i := 5) (h2 := (q_kX s (c + 1) (n + 6))) rfl rfl ?_ rfl ?_
            · refine q_Ca_of (Nat.le_of_ble_eq_true rfl) ?_
              refine q_Ru_seg (g2 := (1, [(0, .ref 64), (1, .int a1), (2, .int a2), (3, .int a3)], [.int a1], (q_kX s c n))) 1 (fun _ _ => rfl) ?_
              refine q_Ru_call (v := none) (h2 := (q_kX s c n)) rfl rfl ?_ ?_
              · refine q_Ca_of (Nat.le_of_ble_eq_true rfl) ?_
                refine q_Ru_seg (g2 := (4, [(0, .int a1)], [.int 4096, .int a1], (q_kX s c n))) 2 (fun _ _ => rfl) ?_
                refine q_Ru_call (v := none) (h2 := (q_kX s c n)) rfl rfl ?_ ?_
                · refine q_Ca_of (Nat.le_of_ble_eq_true rfl) ?_
                  refine q_Ru_seg (g2 := (1, [(0, .int a1), (1, .int 4096)], [.int a1], (q_kX s c n))) 1 (fun _ _ => rfl) ?_
                  refine q_Ru_rsF (g2 := (4, [(0, .int a1), (1, .int 4096)], [], (q_kX s c n))) rfl rfl h9 ?_
                  refine q_Ru_seg (g2 := (6, [(0, .int a1), (1, .int 4096)], [.int 4096, .int a1], (q_kX s c n))) 2 (fun _ _ => rfl) ?_
                  refine q_Ru_rsT (g2 := (19, [(0, .int a1), (1, .int 4096)], [], (q_kX s c n))) rfl rfl h10 ?_
                  exact q_Ru_ret rfl rfl
                show q_Ru _ _ _ (7, [(0, .int a1)], [], (q_kX s c n)) _
                exact q_Ru_ret rfl rfl
              show q_Ru _ _ _ (4, [(0, .ref 64), (1, .int a1), (2, .int a2), (3, .int a3)], [], (q_kX s c n)) _
              refine q_Ru_seg (g2 := (5, [(0, .ref 64), (1, .int a1), (2, .int a2), (3, .int a3)], [.int a2], (q_kX s c n))) 1 (fun _ _ => rfl) ?_
              refine q_Ru_call (v := none) (h2 := (q_kX s c n)) rfl rfl ?_ ?_
              · refine q_Ca_of (Nat.le_of_ble_eq_true rfl) ?_
                refine q_Ru_seg (g2 := (5, [(0, .int a2)], [.int 255, .int 0, .int a2], (q_kX s c n))) 3 (fun _ _ => rfl) ?_
                refine q_Ru_call (v := none) (h2 := (q_kX s c n)) rfl rfl ?_ ?_
                · refine q_Ca_of (Nat.le_of_ble_eq_true rfl) ?_
                  refine q_Ru_seg (g2 := (2, [(0, .int a2), (1, .int 0), (2, .int 255)], [.int 0, .int a2], (q_kX s c n))) 2 (fun _ _ => rfl) ?_
                  refine q_Ru_rsF (g2 := (5, [(0, .int a2), (1, .int 0), (2, .int 255)], [], (q_kX s c n))) rfl rfl h11 ?_
                  refine q_Ru_seg (g2 := (7, [(0, .int a2), (1, .int 0), (2, .int 255)], [.int 255, .int a2], (q_kX s c n))) 2 (fun _ _ => rfl) ?_
                  refine q_Ru_rsT (g2 := (20, [(0, .int a2), (1, .int 0), (2, .int 255)], [], (q_kX s c n))) rfl rfl (q_d_geF h12) ?_
                  exact q_Ru_ret rfl rfl
                show q_Ru _ _ _ (8, [(0, .int a2)], [], (q_kX s c n)) _
                exact q_Ru_ret rfl rfl
              show q_Ru _ _ _ (8, [(0, .ref 64), (1, .int a1), (2, .int a2), (3, .int a3)], [], (q_kX s c n)) _
              refine q_Ru_seg (g2 := (13, [(0, .ref 64), (1, .int a1), (2, .int a2), (3, .int a3)], [.int 4095, .int 0, .int a3], (q_kX s c n))) 3 (fun _ _ => rfl) ?_
              refine q_Ru_callX (E := "java/lang/IllegalArgumentException") (h2 := (q_kX s (c + 1) (n + 6))) rfl rfl ?_
              refine q_Ca_of (Nat.le_of_ble_eq_true rfl) ?_
              refine q_Ru_seg (g2 := (2, [(0, .int a3), (1, .int 0), (2, .int 4095)], [.int 0, .int a3], (q_kX s c n))) 2 (fun _ _ => rfl) ?_
              refine q_Ru_rsT (g2 := (10, [(0, .int a3), (1, .int 0), (2, .int 4095)], [], (q_kX s c n))) rfl rfl h13 ?_
              exact q_Ru_thr rfl rfl
            show q_RP _ _ _ (21, [(0, .ref 64), (1, .int a1), (2, .int a2), (3, .int a3), (4, .ref 236)], [], (q_kX s (c + 1) (n + 6))) _ _
            refine q_RP_seg (g2 := (22, [(0, .ref 64), (1, .int a1), (2, .int a2), (3, .int a3), (4, .ref 236)], [.int 2], (q_kX s (c + 1) (n + 6)))) 1 (fun _ _ => rfl) ?_
            exact q_RP_ret rfl rfl rfl
          | false =>
            refine q_RP_cF ?_
            cases h14 : decide (4095 < a3) with
            | true =>
              refine q_RP_cT ?_
              refine q_RP_callH (E := "java/lang/IllegalArgumentException") (tg := 21) (i := 5) (h2 := (q_kX s (c + 1) (n + 6))) rfl rfl ?_ rfl ?_
              · refine q_Ca_of (Nat.le_of_ble_eq_true rfl) ?_
                refine q_Ru_seg (g2 := (1, [(0, .ref 64), (1, .int a1), (2, .int a2), (3, .int a3)], [.int a1], (q_kX s c n))) 1 (fun _ _ => rfl) ?_
                refine q_Ru_call (v := none) (h2 := (q_kX s c n)) rfl rfl ?_ ?_
                · refine q_Ca_of (Nat.le_of_ble_eq_true rfl) ?_
                  refine q_Ru_seg (g2 := (4, [(0, .int a1)], [.int 4096, .int a1], (q_kX s c n))) 2 (fun _ _ => rfl) ?_
                  refine q_Ru_call (v := none) (h2 := (q_kX s c n)) rfl rfl ?_ ?_
                  · refine q_Ca_of (Nat.le_of_ble_eq_true rfl) ?_
                    refine q_Ru_seg (g2 := (1, [(0, .int a1), (1, .int 4096)], [.int a1], (q_kX s c n))) 1 (fun _ _ => rfl) ?_
                    refine q_Ru_rsF (g2 := (4, [(0, .int a1), (1, .int 4096)], [], (q_kX s c n))) rfl rfl h9 ?_
                    refine q_Ru_seg (g2 := (6, [(0, .int a1), (1, .int 4096)], [.int 4096, .int a1], (q_kX s c n))) 2 (fun _ _ => rfl) ?_
                    refine q_Ru_rsT (g2 := (19, [(0, .int a1), (1, .int 4096)], [], (q_kX s c n))) rfl rfl h10 ?_
                    exact q_Ru_ret rfl rfl
                  show q_Ru _ _ _ (7, [(0, .int a1)], [], (q_kX s c n)) _
                  exact q_Ru_ret rfl rfl
                show q_Ru _ _ _ (4, [(0, .ref 64), (1, .int a1), (2, .int a2), (3, .int a3)], [], (q_kX s c n)) _
                refine q_Ru_seg (g2 := (5, [(0, .ref 64), (1, .int a1), (2, .int a2), (3, .int a3)], [.int a2], (q_kX s c n))) 1 (fun _ _ => rfl) ?_
                refine q_Ru_call (v := none) (h2 := (q_kX s c n)) rfl rfl ?_ ?_
                · refine q_Ca_of (Nat.le_of_ble_eq_true rfl) ?_
                  refine q_Ru_seg (g2 := (5, [(0, .int a2)], [.int 255, .int 0, .int a2], (q_kX s c n))) 3 (fun _ _ => rfl) ?_
                  refine q_Ru_call (v := none) (h2 := (q_kX s c n)) rfl rfl ?_ ?_
                  · refine q_Ca_of (Nat.le_of_ble_eq_true rfl) ?_
                    refine q_Ru_seg (g2 := (2, [(0, .int a2), (1, .int 0), (2, .int 255)], [.int 0, .int a2], (q_kX s c n))) 2 (fun _ _ => rfl) ?_
                    refine q_Ru_rsF (g2 := (5, [(0, .int a2), (1, .int 0), (2, .int 255)], [], (q_kX s c n))) rfl rfl h11 ?_
                    refine q_Ru_seg (g2 := (7, [(0, .int a2), (1, .int 0), (2, .int 255)], [.int 255, .int a2], (q_kX s c n))) 2 (fun _ _ => rfl) ?_
                    refine q_Ru_rsT (g2 := (20, [(0, .int a2), (1, .int 0), (2, .int 255)], [], (q_kX s c n))) rfl rfl (q_d_geF h12) ?_
                    exact q_Ru_ret rfl rfl
                  show q_Ru _ _ _ (8, [(0, .int a2)], [], (q_kX s c n)) _
                  exact q_Ru_ret rfl rfl
                show q_Ru _ _ _ (8, [(0, .ref 64), (1, .int a1), (2, .int a2), (3, .int a3)], [], (q_kX s c n)) _
                refine q_Ru_seg (g2 := (13, [(0, .ref 64), (1, .int a1), (2, .int a2), (3, .int a3)], [.int 4095, .int 0, .int a3], (q_kX s c n))) 3 (fun _ _ => rfl) ?_
                refine q_Ru_callX (E := "java/lang/IllegalArgumentException") (h2 := (q_kX s (c + 1) (n + 6))) rfl rfl ?_
                refine q_Ca_of (Nat.le_of_ble_eq_true rfl) ?_
                refine q_Ru_seg (g2 := (2, [(0, .int a3), (1, .int 0), (2, .int 4095)], [.int 0, .int a3], (q_kX s c n))) 2 (fun _ _ => rfl) ?_
                refine q_Ru_rsF (g2 := (5, [(0, .int a3), (1, .int 0), (2, .int 4095)], [], (q_kX s c n))) rfl rfl h13 ?_
                refine q_Ru_seg (g2 := (7, [(0, .int a3), (1, .int 0), (2, .int 4095)], [.int 4095, .int a3], (q_kX s c n))) 2 (fun _ _ => rfl) ?_
                refine q_Ru_rsF (g2 := (10, [(0, .int a3), (1, .int 0), (2, .int 4095)], [], (q_kX s c n))) rfl rfl (q_d_geT h14) ?_
                exact q_Ru_thr rfl rfl
              show q_RP _ _ _ (21, [(0, .ref 64), (1, .int a1), (2, .int a2), (3, .int a3), (4, .ref 236)], [], (q_kX s (c + 1) (n + 6))) _ _
              refine q_RP_seg (g2 := (22, [(0, .ref 64), (1, .int a1), (2, .int a2), (3, .int a3), (4, .ref 236)], [.int 2], (q_kX s (c + 1) (n + 6)))) 1 (fun _ _ => rfl) ?_
              exact q_RP_ret rfl rfl rfl
            | false =>
              refine q_RP_cF ?_
              generalize er3 : dz_N190 (q_vw 32 1 73 s) a2 = r3
              refine q_RP_let ?_
              cases h15 : decide (r3 = 2) with
              | true =>
                refine q_RP_cT ?_
                cases h16 : decide (255 < a3) with
                | true =>
                  refine q_RP_cT ?_
                  refine q_RP_callH (E := "java/lang/IllegalArgumentException") (tg := 21) (i := 5) (h2 := (q_kX s (c + 1) (n + 6))) rfl rfl ?_ rfl ?_
                  · refine q_Ca_of (Nat.le_of_ble_eq_true rfl) ?_
                    refine q_Ru_seg (g2 := (1, [(0, .ref 64), (1, .int a1), (2, .int a2), (3, .int a3)], [.int a1], (q_kX s c n))) 1 (fun _ _ => rfl) ?_
                    refine q_Ru_call (v := none) (h2 := (q_kX s c n)) rfl rfl ?_ ?_
                    · refine q_Ca_of (Nat.le_of_ble_eq_true rfl) ?_
                      refine q_Ru_seg (g2 := (4, [(0, .int a1)], [.int 4096, .int a1], (q_kX s c n))) 2 (fun _ _ => rfl) ?_
                      refine q_Ru_call (v := none) (h2 := (q_kX s c n)) rfl rfl ?_ ?_
                      · refine q_Ca_of (Nat.le_of_ble_eq_true rfl) ?_
                        refine q_Ru_seg (g2 := (1, [(0, .int a1), (1, .int 4096)], [.int a1], (q_kX s c n))) 1 (fun _ _ => rfl) ?_
                        refine q_Ru_rsF (g2 := (4, [(0, .int a1), (1, .int 4096)], [], (q_kX s c n))) rfl rfl h9 ?_
                        refine q_Ru_seg (g2 := (6, [(0, .int a1), (1, .int 4096)], [.int 4096, .int a1], (q_kX s c n))) 2 (fun _ _ => rfl) ?_
                        refine q_Ru_rsT (g2 := (19, [(0, .int a1), (1, .int 4096)], [], (q_kX s c n))) rfl rfl h10 ?_
                        exact q_Ru_ret rfl rfl
                      show q_Ru _ _ _ (7, [(0, .int a1)], [], (q_kX s c n)) _
                      exact q_Ru_ret rfl rfl
                    show q_Ru _ _ _ (4, [(0, .ref 64), (1, .int a1), (2, .int a2), (3, .int a3)], [], (q_kX s c n)) _
                    refine q_Ru_seg (g2 := (5, [(0, .ref 64), (1, .int a1), (2, .int a2), (3, .int a3)], [.int a2], (q_kX s c n))) 1 (fun _ _ => rfl) ?_
                    refine q_Ru_call (v := none) (h2 := (q_kX s c n)) rfl rfl ?_ ?_
                    · refine q_Ca_of (Nat.le_of_ble_eq_true rfl) ?_
                      refine q_Ru_seg (g2 := (5, [(0, .int a2)], [.int 255, .int 0, .int a2], (q_kX s c n))) 3 (fun _ _ => rfl) ?_
                      refine q_Ru_call (v := none) (h2 := (q_kX s c n)) rfl rfl ?_ ?_
                      · refine q_Ca_of (Nat.le_of_ble_eq_true rfl) ?_
                        refine q_Ru_seg (g2 := (2, [(0, .int a2), (1, .int 0), (2, .int 255)], [.int 0, .int a2], (q_kX s c n))) 2 (fun _ _ => rfl) ?_
                        refine q_Ru_rsF (g2 := (5, [(0, .int a2), (1, .int 0), (2, .int 255)], [], (q_kX s c n))) rfl rfl h11 ?_
                        refine q_Ru_seg (g2 := (7, [(0, .int a2), (1, .int 0), (2, .int 255)], [.int 255, .int a2], (q_kX s c n))) 2 (fun _ _ => rfl) ?_
                        refine q_Ru_rsT (g2 := (20, [(0, .int a2), (1, .int 0), (2, .int 255)], [], (q_kX s c n))) rfl rfl (q_d_geF h12) ?_
                        exact q_Ru_ret rfl rfl
                      show q_Ru _ _ _ (8, [(0, .int a2)], [], (q_kX s c n)) _
                      exact q_Ru_ret rfl rfl
                    show q_Ru _ _ _ (8, [(0, .ref 64), (1, .int a1), (2, .int a2), (3, .int a3)], [], (q_kX s c n)) _
                    refine q_Ru_seg (g2 := (13, [(0, .ref 64), (1, .int a1), (2, .int a2), (3, .int a3)], [.int 4095, .int 0, .int a3], (q_kX s c n))) 3 (fun _ _ => rfl) ?_
                    refine q_Ru_call (v := none) (h2 := (q_kX s c n)) rfl rfl ?_ ?_
                    · refine q_Ca_of (Nat.le_of_ble_eq_true rfl) ?_
                      refine q_Ru_seg (g2 := (2, [(0, .int a3), (1, .int 0), (2, .int 4095)], [.int 0, .int a3], (q_kX s c n))) 2 (fun _ _ => rfl) ?_
                      refine q_Ru_rsF (g2 := (5, [(0, .int a3), (1, .int 0), (2, .int 4095)], [], (q_kX s c n))) rfl rfl h13 ?_
                      refine q_Ru_seg (g2 := (7, [(0, .int a3), (1, .int 0), (2, .int 4095)], [.int 4095, .int a3], (q_kX s c n))) 2 (fun _ _ => rfl) ?_
                      refine q_Ru_rsT (g2 := (20, [(0, .int a3), (1, .int 0), (2, .int 4095)], [], (q_kX s c n))) rfl rfl (q_d_geF h14) ?_
                      exact q_Ru_ret rfl rfl
                    show q_Ru _ _ _ (16, [(0, .ref 64), (1, .int a1), (2, .int a2), (3, .int a3)], [], (q_kX s c n)) _
                    refine q_Ru_seg (g2 := (17, [(0, .ref 64), (1, .int a1), (2, .int a2), (3, .int a3)], [.int a2], (q_kX s c n))) 1 (fun _ _ => rfl) ?_
                    refine q_Ru_call (v := (some (.int r3))) (h2 := (q_kX s c n)) rfl rfl ?_ ?_
                    · exact (q_emNX_1p rfl (fun _ => rfl) ((q_cE (φ := (q_oP (q_kN (q_vw 32 1 73 s) c n))) er3 (dzt_N190 (q_vw 32 1 73 s) c n a2)).tb q_TB0_le)).le (Nat.le_of_ble_eq_true rfl)
                    show q_Ru _ _ _ (20, [(0, .ref 64), (1, .int a1), (2, .int a2), (3, .int a3)], [.int r3], (q_kX s c n)) _
                    refine q_Ru_seg (g2 := (21, [(0, .ref 64), (1, .int a1), (2, .int a2), (3, .int a3)], [.int 2, .int r3], (q_kX s c n))) 1 (fun _ _ => rfl) ?_
                    refine q_Ru_rsF (g2 := (24, [(0, .ref 64), (1, .int a1), (2, .int a2), (3, .int a3)], [], (q_kX s c n))) rfl rfl (q_d_neT h15) ?_
                    refine q_Ru_seg (g2 := (25, [(0, .ref 64), (1, .int a1), (2, .int a2), (3, .int a3)], [.int a3], (q_kX s c n))) 1 (fun _ _ => rfl) ?_
                    refine q_Ru_callX (E := "java/lang/IllegalArgumentException") (h2 := (q_kX s (c + 1) (n + 6))) rfl rfl ?_
                    refine q_Ca_of (Nat.le_of_ble_eq_true rfl) ?_
                    refine q_Ru_seg (g2 := (5, [(0, .int a3)], [.int 255, .int 0, .int a3], (q_kX s c n))) 3 (fun _ _ => rfl) ?_
                    refine q_Ru_callX (E := "java/lang/IllegalArgumentException") (h2 := (q_kX s (c + 1) (n + 6))) rfl rfl ?_
                    refine q_Ca_of (Nat.le_of_ble_eq_true rfl) ?_
                    refine q_Ru_seg (g2 := (2, [(0, .int a3), (1, .int 0), (2, .int 255)], [.int 0, .int a3], (q_kX s c n))) 2 (fun _ _ => rfl) ?_
                    refine q_Ru_rsF (g2 := (5, [(0, .int a3), (1, .int 0), (2, .int 255)], [], (q_kX s c n))) rfl rfl h13 ?_
                    refine q_Ru_seg (g2 := (7, [(0, .int a3), (1, .int 0), (2, .int 255)], [.int 255, .int a3], (q_kX s c n))) 2 (fun _ _ => rfl) ?_
                    refine q_Ru_rsF (g2 := (10, [(0, .int a3), (1, .int 0), (2, .int 255)], [], (q_kX s c n))) rfl rfl (q_d_geT h16) ?_
                    exact q_Ru_thr rfl rfl
                  show q_RP _ _ _ (21, [(0, .ref 64), (1, .int a1), (2, .int a2), (3, .int a3), (4, .ref 236)], [], (q_kX s (c + 1) (n + 6))) _ _
                  refine q_RP_seg (g2 := (22, [(0, .ref 64), (1, .int a1), (2, .int a2), (3, .int a3), (4, .ref 236)], [.int 2], (q_kX s (c + 1) (n + 6)))) 1 (fun _ _ => rfl) ?_
                  exact q_RP_ret rfl rfl rfl
                | false =>
                  refine q_RP_cF ?_
                  generalize er4 : dz_X184_98 s 3 a1 a2 a3 = r4
                  refine q_RP_let ?_
                  refine q_RP_bd fun r5 er5 => ?_
                  refine q_RP_call (v := (some (.int r5.2))) (h2 := (q_kX (q_pt 32 3 1 73 r4 r5.1) c n)) rfl rfl ?_ ?_
                  · refine q_Ca_of (Nat.le_of_ble_eq_true rfl) ?_
                    refine q_Ru_seg (g2 := (1, [(0, .ref 64), (1, .int a1), (2, .int a2), (3, .int a3)], [.int a1], (q_kX s c n))) 1 (fun _ _ => rfl) ?_
                    refine q_Ru_call (v := none) (h2 := (q_kX s c n)) rfl rfl ?_ ?_
                    · refine q_Ca_of (Nat.le_of_ble_eq_true rfl) ?_
                      refine q_Ru_seg (g2 := (4, [(0, .int a1)], [.int 4096, .int a1], (q_kX s c n))) 2 (fun _ _ => rfl) ?_
                      refine q_Ru_call (v := none) (h2 := (q_kX s c n)) rfl rfl ?_ ?_
                      · refine q_Ca_of (Nat.le_of_ble_eq_true rfl) ?_
                        refine q_Ru_seg (g2 := (1, [(0, .int a1), (1, .int 4096)], [.int a1], (q_kX s c n))) 1 (fun _ _ => rfl) ?_
                        refine q_Ru_rsF (g2 := (4, [(0, .int a1), (1, .int 4096)], [], (q_kX s c n))) rfl rfl h9 ?_
                        refine q_Ru_seg (g2 := (6, [(0, .int a1), (1, .int 4096)], [.int 4096, .int a1], (q_kX s c n))) 2 (fun _ _ => rfl) ?_
                        refine q_Ru_rsT (g2 := (19, [(0, .int a1), (1, .int 4096)], [], (q_kX s c n))) rfl rfl h10 ?_
                        exact q_Ru_ret rfl rfl
                      show q_Ru _ _ _ (7, [(0, .int a1)], [], (q_kX s c n)) _
                      exact q_Ru_ret rfl rfl
                    show q_Ru _ _ _ (4, [(0, .ref 64), (1, .int a1), (2, .int a2), (3, .int a3)], [], (q_kX s c n)) _
                    refine q_Ru_seg (g2 := (5, [(0, .ref 64), (1, .int a1), (2, .int a2), (3, .int a3)], [.int a2], (q_kX s c n))) 1 (fun _ _ => rfl) ?_
                    refine q_Ru_call (v := none) (h2 := (q_kX s c n)) rfl rfl ?_ ?_
                    · refine q_Ca_of (Nat.le_of_ble_eq_true rfl) ?_
                      refine q_Ru_seg (g2 := (5, [(0, .int a2)], [.int 255, .int 0, .int a2], (q_kX s c n))) 3 (fun _ _ => rfl) ?_
                      refine q_Ru_call (v := none) (h2 := (q_kX s c n)) rfl rfl ?_ ?_
                      · refine q_Ca_of (Nat.le_of_ble_eq_true rfl) ?_
                        refine q_Ru_seg (g2 := (2, [(0, .int a2), (1, .int 0), (2, .int 255)], [.int 0, .int a2], (q_kX s c n))) 2 (fun _ _ => rfl) ?_
                        refine q_Ru_rsF (g2 := (5, [(0, .int a2), (1, .int 0), (2, .int 255)], [], (q_kX s c n))) rfl rfl h11 ?_
                        refine q_Ru_seg (g2 := (7, [(0, .int a2), (1, .int 0), (2, .int 255)], [.int 255, .int a2], (q_kX s c n))) 2 (fun _ _ => rfl) ?_
                        refine q_Ru_rsT (g2 := (20, [(0, .int a2), (1, .int 0), (2, .int 255)], [], (q_kX s c n))) rfl rfl (q_d_geF h12) ?_
                        exact q_Ru_ret rfl rfl
                      show q_Ru _ _ _ (8, [(0, .int a2)], [], (q_kX s c n)) _
                      exact q_Ru_ret rfl rfl
                    show q_Ru _ _ _ (8, [(0, .ref 64), (1, .int a1), (2, .int a2), (3, .int a3)], [], (q_kX s c n)) _
                    refine q_Ru_seg (g2 := (13, [(0, .ref 64), (1, .int a1), (2, .int a2), (3, .int a3)], [.int 4095, .int 0, .int a3], (q_kX s c n))) 3 (fun _ _ => rfl) ?_
                    refine q_Ru_call (v := none) (h2 := (q_kX s c n)) rfl rfl ?_ ?_
                    · refine q_Ca_of (Nat.le_of_ble_eq_true rfl) ?_
                      refine q_Ru_seg (g2 := (2, [(0, .int a3), (1, .int 0), (2, .int 4095)], [.int 0, .int a3], (q_kX s c n))) 2 (fun _ _ => rfl) ?_
                      refine q_Ru_rsF (g2 := (5, [(0, .int a3), (1, .int 0), (2, .int 4095)], [], (q_kX s c n))) rfl rfl h13 ?_
                      refine q_Ru_seg (g2 := (7, [(0, .int a3), (1, .int 0), (2, .int 4095)], [.int 4095, .int a3], (q_kX s c n))) 2 (fun _ _ => rfl) ?_
                      refine q_Ru_rsT (g2 := (20, [(0, .int a3), (1, .int 0), (2, .int 4095)], [], (q_kX s c n))) rfl rfl (q_d_geF h14) ?_
                      exact q_Ru_ret rfl rfl
                    show q_Ru _ _ _ (16, [(0, .ref 64), (1, .int a1), (2, .int a2), (3, .int a3)], [], (q_kX s c n)) _
                    refine q_Ru_seg (g2 := (17, [(0, .ref 64), (1, .int a1), (2, .int a2), (3, .int a3)], [.int a2], (q_kX s c n))) 1 (fun _ _ => rfl) ?_
                    refine q_Ru_call (v := (some (.int r3))) (h2 := (q_kX s c n)) rfl rfl ?_ ?_
                    · exact (q_emNX_1p rfl (fun _ => rfl) ((q_cE (φ := (q_oP (q_kN (q_vw 32 1 73 s) c n))) er3 (dzt_N190 (q_vw 32 1 73 s) c n a2)).tb q_TB0_le)).le (Nat.le_of_ble_eq_true rfl)
                    show q_Ru _ _ _ (20, [(0, .ref 64), (1, .int a1), (2, .int a2), (3, .int a3)], [.int r3], (q_kX s c n)) _
                    refine q_Ru_seg (g2 := (21, [(0, .ref 64), (1, .int a1), (2, .int a2), (3, .int a3)], [.int 2, .int r3], (q_kX s c n))) 1 (fun _ _ => rfl) ?_
                    refine q_Ru_rsF (g2 := (24, [(0, .ref 64), (1, .int a1), (2, .int a2), (3, .int a3)], [], (q_kX s c n))) rfl rfl (q_d_neT h15) ?_
                    refine q_Ru_seg (g2 := (25, [(0, .ref 64), (1, .int a1), (2, .int a2), (3, .int a3)], [.int a3], (q_kX s c n))) 1 (fun _ _ => rfl) ?_
                    refine q_Ru_call (v := none) (h2 := (q_kX s c n)) rfl rfl ?_ ?_
                    · refine q_Ca_of (Nat.le_of_ble_eq_true rfl) ?_
                      refine q_Ru_seg (g2 := (5, [(0, .int a3)], [.int 255, .int 0, .int a3], (q_kX s c n))) 3 (fun _ _ => rfl) ?_
                      refine q_Ru_call (v := none) (h2 := (q_kX s c n)) rfl rfl ?_ ?_
                      · refine q_Ca_of (Nat.le_of_ble_eq_true rfl) ?_
                        refine q_Ru_seg (g2 := (2, [(0, .int a3), (1, .int 0), (2, .int 255)], [.int 0, .int a3], (q_kX s c n))) 2 (fun _ _ => rfl) ?_
                        refine q_Ru_rsF (g2 := (5, [(0, .int a3), (1, .int 0), (2, .int 255)], [], (q_kX s c n))) rfl rfl h13 ?_
                        refine q_Ru_seg (g2 := (7, [(0, .int a3), (1, .int 0), (2, .int 255)], [.int 255, .int a3], (q_kX s c n))) 2 (fun _ _ => rfl) ?_
                        refine q_Ru_rsT (g2 := (20, [(0, .int a3), (1, .int 0), (2, .int 255)], [], (q_kX s c n))) rfl rfl (q_d_geF h16) ?_
                        exact q_Ru_ret rfl rfl
                      show q_Ru _ _ _ (8, [(0, .int a3)], [], (q_kX s c n)) _
                      exact q_Ru_ret rfl rfl
                    show q_Ru _ _ _ (28, [(0, .ref 64), (1, .int a1), (2, .int a2), (3, .int a3)], [], (q_kX s c n)) _
                    refine q_Ru_seg (g2 := (36, [(0, .ref 64), (1, .int a1), (2, .int a2), (3, .int a3)], [.int a3, .int a2, .int a1, .int 3, .ref 98], (q_kX s c n))) 6 (fun _ _ => rfl) ?_
                    refine q_Ru_call (v := none) (h2 := (q_kX r4 c n)) rfl rfl ?_ ?_
                    · exact (q_cE (φ := (q_oSX c n)) er4 (dzt_X184_98 z L xs s c n 3 a1 a2 a3)).le (Nat.le_of_ble_eq_true rfl)
                    show q_Ru _ _ _ (39, [(0, .ref 64), (1, .int a1), (2, .int a2), (3, .int a3)], [], (q_kX r4 c n)) _
                    refine q_Ru_seg (g2 := (47, [(0, .ref 64), (1, .int a1), (2, .int a2), (3, .int a3)], [.int a3, .int a2, .int a1, .int 3, .ref 65], (q_kX r4 c n))) 6 (fun _ _ => rfl) ?_
                    refine q_Ru_call (v := (some (.int r5.2))) (h2 := (q_kX (q_pt 32 3 1 73 r4 r5.1) c n)) rfl rfl ?_ ?_
                    · exact (q_emNX_1 rfl (fun _ => rfl) ((dzt_N79_64 (q_vw 32 1 73 r4) c n 3 a1 a2 a3 r5 er5).tb q_TB0_le)).le (Nat.le_of_ble_eq_true rfl)
                    show q_Ru _ _ _ (50, [(0, .ref 64), (1, .int a1), (2, .int a2), (3, .int a3)], [.int r5.2], (q_kX (q_pt 32 3 1 73 r4 r5.1) c n)) _
                    exact q_Ru_ret rfl rfl
                  show q_RP _ _ _ (10, [(0, .ref 64), (1, .int a1), (2, .int a2), (3, .int a3), (4, .ref 236)], [.int r5.2, .int 0, .ref 236], (q_kX (q_pt 32 3 1 73 r4 r5.1) c n)) _ _
                  refine q_RP_seg (g2 := (11, [(0, .ref 64), (1, .int a1), (2, .int a2), (3, .int a3), (4, .ref 236)], [.long r5.2.toInt64, .int 0, .ref 236], (q_kX (q_pt 32 3 1 73 r4 r5.1) c n))) 1 (fun _ _ => rfl) ?_
                  refine q_RP_rsT (g2 := (12, [(0, .ref 64), (1, .int a1), (2, .int a2), (3, .int a3), (4, .ref 236)], [], (q_kX (q_sL (q_pt 32 3 1 73 r4 r5.1) 172 (vp_updL ((q_pt 32 3 1 73 r4 r5.1).2.2 172) 0 r5.2.toInt64)) c n))) rfl q_wX172 rfl ?_
                  refine q_RP_seg (g2 := (24, [(0, .ref 64), (1, .int a1), (2, .int a2), (3, .int a3), (4, .ref 236)], [.int 0], (q_kX (q_sL (q_pt 32 3 1 73 r4 r5.1) 172 (vp_updL ((q_pt 32 3 1 73 r4 r5.1).2.2 172) 0 r5.2.toInt64)) c n))) 2 (fun _ _ => rfl) ?_
                  exact q_RP_ret rfl rfl rfl
              | false =>
                refine q_RP_cF ?_
                generalize er6 : dz_X184_98 s 3 a1 a2 a3 = r6
                refine q_RP_let ?_
                refine q_RP_bd fun r7 er7 => ?_
                refine q_RP_call (v := (some (.int r7.2))) (h2 := (q_kX (q_pt 32 3 1 73 r6 r7.1) c n)) rfl rfl ?_ ?_
                · refine q_Ca_of (Nat.le_of_ble_eq_true rfl) ?_
                  refine q_Ru_seg (g2 := (1, [(0, .ref 64), (1, .int a1), (2, .int a2), (3, .int a3)], [.int a1], (q_kX s c n))) 1 (fun _ _ => rfl) ?_
                  refine q_Ru_call (v := none) (h2 := (q_kX s c n)) rfl rfl ?_ ?_
                  · refine q_Ca_of (Nat.le_of_ble_eq_true rfl) ?_
                    refine q_Ru_seg (g2 := (4, [(0, .int a1)], [.int 4096, .int a1], (q_kX s c n))) 2 (fun _ _ => rfl) ?_
                    refine q_Ru_call (v := none) (h2 := (q_kX s c n)) rfl rfl ?_ ?_
                    · refine q_Ca_of (Nat.le_of_ble_eq_true rfl) ?_
                      refine q_Ru_seg (g2 := (1, [(0, .int a1), (1, .int 4096)], [.int a1], (q_kX s c n))) 1 (fun _ _ => rfl) ?_
                      refine q_Ru_rsF (g2 := (4, [(0, .int a1), (1, .int 4096)], [], (q_kX s c n))) rfl rfl h9 ?_
                      refine q_Ru_seg (g2 := (6, [(0, .int a1), (1, .int 4096)], [.int 4096, .int a1], (q_kX s c n))) 2 (fun _ _ => rfl) ?_
                      refine q_Ru_rsT (g2 := (19, [(0, .int a1), (1, .int 4096)], [], (q_kX s c n))) rfl rfl h10 ?_
                      exact q_Ru_ret rfl rfl
                    show q_Ru _ _ _ (7, [(0, .int a1)], [], (q_kX s c n)) _
                    exact q_Ru_ret rfl rfl
                  show q_Ru _ _ _ (4, [(0, .ref 64), (1, .int a1), (2, .int a2), (3, .int a3)], [], (q_kX s c n)) _
                  refine q_Ru_seg (g2 := (5, [(0, .ref 64), (1, .int a1), (2, .int a2), (3, .int a3)], [.int a2], (q_kX s c n))) 1 (fun _ _ => rfl) ?_
                  refine q_Ru_call (v := none) (h2 := (q_kX s c n)) rfl rfl ?_ ?_
                  · refine q_Ca_of (Nat.le_of_ble_eq_true rfl) ?_
                    refine q_Ru_seg (g2 := (5, [(0, .int a2)], [.int 255, .int 0, .int a2], (q_kX s c n))) 3 (fun _ _ => rfl) ?_
                    refine q_Ru_call (v := none) (h2 := (q_kX s c n)) rfl rfl ?_ ?_
                    · refine q_Ca_of (Nat.le_of_ble_eq_true rfl) ?_
                      refine q_Ru_seg (g2 := (2, [(0, .int a2), (1, .int 0), (2, .int 255)], [.int 0, .int a2], (q_kX s c n))) 2 (fun _ _ => rfl) ?_
                      refine q_Ru_rsF (g2 := (5, [(0, .int a2), (1, .int 0), (2, .int 255)], [], (q_kX s c n))) rfl rfl h11 ?_
                      refine q_Ru_seg (g2 := (7, [(0, .int a2), (1, .int 0), (2, .int 255)], [.int 255, .int a2], (q_kX s c n))) 2 (fun _ _ => rfl) ?_
                      refine q_Ru_rsT (g2 := (20, [(0, .int a2), (1, .int 0), (2, .int 255)], [], (q_kX s c n))) rfl rfl (q_d_geF h12) ?_
                      exact q_Ru_ret rfl rfl
                    show q_Ru _ _ _ (8, [(0, .int a2)], [], (q_kX s c n)) _
                    exact q_Ru_ret rfl rfl
                  show q_Ru _ _ _ (8, [(0, .ref 64), (1, .int a1), (2, .int a2), (3, .int a3)], [], (q_kX s c n)) _
                  refine q_Ru_seg (g2 := (13, [(0, .ref 64), (1, .int a1), (2, .int a2), (3, .int a3)], [.int 4095, .int 0, .int a3], (q_kX s c n))) 3 (fun _ _ => rfl) ?_
                  refine q_Ru_call (v := none) (h2 := (q_kX s c n)) rfl rfl ?_ ?_
                  · refine q_Ca_of (Nat.le_of_ble_eq_true rfl) ?_
                    refine q_Ru_seg (g2 := (2, [(0, .int a3), (1, .int 0), (2, .int 4095)], [.int 0, .int a3], (q_kX s c n))) 2 (fun _ _ => rfl) ?_
                    refine q_Ru_rsF (g2 := (5, [(0, .int a3), (1, .int 0), (2, .int 4095)], [], (q_kX s c n))) rfl rfl h13 ?_
                    refine q_Ru_seg (g2 := (7, [(0, .int a3), (1, .int 0), (2, .int 4095)], [.int 4095, .int a3], (q_kX s c n))) 2 (fun _ _ => rfl) ?_
                    refine q_Ru_rsT (g2 := (20, [(0, .int a3), (1, .int 0), (2, .int 4095)], [], (q_kX s c n))) rfl rfl (q_d_geF h14) ?_
                    exact q_Ru_ret rfl rfl
                  show q_Ru _ _ _ (16, [(0, .ref 64), (1, .int a1), (2, .int a2), (3, .int a3)], [], (q_kX s c n)) _
                  refine q_Ru_seg (g2 := (17, [(0, .ref 64), (1, .int a1), (2, .int a2), (3, .int a3)], [.int a2], (q_kX s c n))) 1 (fun _ _ => rfl) ?_
                  refine q_Ru_call (v := (some (.int r3))) (h2 := (q_kX s c n)) rfl rfl ?_ ?_
                  · exact (q_emNX_1p rfl (fun _ => rfl) ((q_cE (φ := (q_oP (q_kN (q_vw 32 1 73 s) c n))) er3 (dzt_N190 (q_vw 32 1 73 s) c n a2)).tb q_TB0_le)).le (Nat.le_of_ble_eq_true rfl)
                  show q_Ru _ _ _ (20, [(0, .ref 64), (1, .int a1), (2, .int a2), (3, .int a3)], [.int r3], (q_kX s c n)) _
                  refine q_Ru_seg (g2 := (21, [(0, .ref 64), (1, .int a1), (2, .int a2), (3, .int a3)], [.int 2, .int r3], (q_kX s c n))) 1 (fun _ _ => rfl) ?_
                  refine q_Ru_rsT (g2 := (28, [(0, .ref 64), (1, .int a1), (2, .int a2), (3, .int a3)], [], (q_kX s c n))) rfl rfl (q_d_neF h15) ?_
                  refine q_Ru_seg (g2 := (36, [(0, .ref 64), (1, .int a1), (2, .int a2), (3, .int a3)], [.int a3, .int a2, .int a1, .int 3, .ref 98], (q_kX s c n))) 6 (fun _ _ => rfl) ?_
                  refine q_Ru_call (v := none) (h2 := (q_kX r6 c n)) rfl rfl ?_ ?_
                  · exact (q_cE (φ := (q_oSX c n)) er6 (dzt_X184_98 z L xs s c n 3 a1 a2 a3)).le (Nat.le_of_ble_eq_true rfl)
                  show q_Ru _ _ _ (39, [(0, .ref 64), (1, .int a1), (2, .int a2), (3, .int a3)], [], (q_kX r6 c n)) _
                  refine q_Ru_seg (g2 := (47, [(0, .ref 64), (1, .int a1), (2, .int a2), (3, .int a3)], [.int a3, .int a2, .int a1, .int 3, .ref 65], (q_kX r6 c n))) 6 (fun _ _ => rfl) ?_
                  refine q_Ru_call (v := (some (.int r7.2))) (h2 := (q_kX (q_pt 32 3 1 73 r6 r7.1) c n)) rfl rfl ?_ ?_
                  · exact (q_emNX_1 rfl (fun _ => rfl) ((dzt_N79_64 (q_vw 32 1 73 r6) c n 3 a1 a2 a3 r7 er7).tb q_TB0_le)).le (Nat.le_of_ble_eq_true rfl)
                  show q_Ru _ _ _ (50, [(0, .ref 64), (1, .int a1), (2, .int a2), (3, .int a3)], [.int r7.2], (q_kX (q_pt 32 3 1 73 r6 r7.1) c n)) _
                  exact q_Ru_ret rfl rfl
                show q_RP _ _ _ (10, [(0, .ref 64), (1, .int a1), (2, .int a2), (3, .int a3), (4, .ref 236)], [.int r7.2, .int 0, .ref 236], (q_kX (q_pt 32 3 1 73 r6 r7.1) c n)) _ _
                refine q_RP_seg (g2 := (11, [(0, .ref 64), (1, .int a1), (2, .int a2), (3, .int a3), (4, .ref 236)], [.long r7.2.toInt64, .int 0, .ref 236], (q_kX (q_pt 32 3 1 73 r6 r7.1) c n))) 1 (fun _ _ => rfl) ?_
                refine q_RP_rsT (g2 := (12, [(0, .ref 64), (1, .int a1), (2, .int a2), (3, .int a3), (4, .ref 236)], [], (q_kX (q_sL (q_pt 32 3 1 73 r6 r7.1) 172 (vp_updL ((q_pt 32 3 1 73 r6 r7.1).2.2 172) 0 r7.2.toInt64)) c n))) rfl q_wX172 rfl ?_
                refine q_RP_seg (g2 := (24, [(0, .ref 64), (1, .int a1), (2, .int a2), (3, .int a3), (4, .ref 236)], [.int 0], (q_kX (q_sL (q_pt 32 3 1 73 r6 r7.1) 172 (vp_updL ((q_pt 32 3 1 73 r6 r7.1).2.2 172) 0 r7.2.toInt64)) c n))) 2 (fun _ _ => rfl) ?_
                exact q_RP_ret rfl rfl rfl
    | false =>
      refine q_RP_cF ?_
      refine q_RP_callH (E := "java/lang/IndexOutOfBoundsException") (tg := 17) (i := 5) (h2 := (q_kX s (c + 1) (n + 6))) rfl rfl ?_ rfl ?_
      · refine q_Ca_of (Nat.le_of_ble_eq_true rfl) ?_
        refine q_Ru_seg (g2 := (1, [(0, .ref 64), (1, .int a1), (2, .int a2), (3, .int a3)], [.int a1], (q_kX s c n))) 1 (fun _ _ => rfl) ?_
        refine q_Ru_callX (E := "java/lang/IndexOutOfBoundsException") (h2 := (q_kX s (c + 1) (n + 6))) rfl rfl ?_
        refine q_Ca_of (Nat.le_of_ble_eq_true rfl) ?_
        refine q_Ru_seg (g2 := (4, [(0, .int a1)], [.int 4096, .int a1], (q_kX s c n))) 2 (fun _ _ => rfl) ?_
        refine q_Ru_callX (E := "java/lang/IndexOutOfBoundsException") (h2 := (q_kX s (c + 1) (n + 6))) rfl rfl ?_
        refine q_Ca_of (Nat.le_of_ble_eq_true rfl) ?_
        refine q_Ru_seg (g2 := (1, [(0, .int a1), (1, .int 4096)], [.int a1], (q_kX s c n))) 1 (fun _ _ => rfl) ?_
        refine q_Ru_rsF (g2 := (4, [(0, .int a1), (1, .int 4096)], [], (q_kX s c n))) rfl rfl h9 ?_
        refine q_Ru_seg (g2 := (6, [(0, .int a1), (1, .int 4096)], [.int 4096, .int a1], (q_kX s c n))) 2 (fun _ _ => rfl) ?_
        refine q_Ru_rsF (g2 := (9, [(0, .int a1), (1, .int 4096)], [], (q_kX s c n))) rfl rfl h10 ?_
        exact q_Ru_thr rfl rfl
      show q_RP _ _ _ (17, [(0, .ref 64), (1, .int a1), (2, .int a2), (3, .int a3), (4, .ref 236)], [], (q_kX s (c + 1) (n + 6))) _ _
      refine q_RP_seg (g2 := (18, [(0, .ref 64), (1, .int a1), (2, .int a2), (3, .int a3), (4, .ref 236)], [.int 1], (q_kX s (c + 1) (n + 6)))) 1 (fun _ _ => rfl) ?_
      exact q_RP_ret rfl rfl rfl
def dz_X194_135_66 (s : q_S) (a2 : Int32) : Option (q_S) :=
  (dz_N90_65 (q_vw 32 1 73 s) a2).bind fun r2 => q_let (dz_N190 (q_vw 32 1 73 s) r2) fun r3 => (dz_N90_65 (q_vw 32 1 73 s) ((a2 + 1) &&& 4095)).bind fun r4 => (dz_B328_64 (q_vw 2 71 0 s) 0).bind fun r5 => (dz_B326_64 (q_vw 2 71 0 (q_pt 2 0 71 0 s r5)) a2).bind fun r6 => (dz_B325_64 (q_vw 2 71 0 (q_pt 2 0 71 0 (q_pt 2 0 71 0 s r5) r6)) 32).bind fun r7 => (dz_B193_64 (q_vw 2 71 0 (q_pt 2 0 71 0 (q_pt 2 0 71 0 (q_pt 2 0 71 0 s r5) r6) r7)) r2).bind fun r8 => cond (decide (r3 = 1)) (some (q_pt 2 0 71 0 (q_pt 2 0 71 0 (q_pt 2 0 71 0 (q_pt 2 0 71 0 s r5) r6) r7) r8)) (q_let (dz_N187 (q_vw 32 1 73 (q_pt 2 0 71 0 (q_pt 2 0 71 0 (q_pt 2 0 71 0 (q_pt 2 0 71 0 s r5) r6) r7) r8)) r2) fun r9 => cond r9 ((dz_B325_64 (q_vw 2 71 0 (q_pt 2 0 71 0 (q_pt 2 0 71 0 (q_pt 2 0 71 0 (q_pt 2 0 71 0 s r5) r6) r7) r8)) 32).bind fun r10 => q_let (dz_N193 (q_vw 32 1 73 (q_pt 2 0 71 0 (q_pt 2 0 71 0 (q_pt 2 0 71 0 (q_pt 2 0 71 0 (q_pt 2 0 71 0 s r5) r6) r7) r8) r10)) a2 r4) fun r11 => (dz_B326_64 (q_vw 2 71 0 (q_pt 2 0 71 0 (q_pt 2 0 71 0 (q_pt 2 0 71 0 (q_pt 2 0 71 0 (q_pt 2 0 71 0 s r5) r6) r7) r8) r10)) r11).bind fun r12 => some (q_pt 2 0 71 0 (q_pt 2 0 71 0 (q_pt 2 0 71 0 (q_pt 2 0 71 0 (q_pt 2 0 71 0 (q_pt 2 0 71 0 s r5) r6) r7) r8) r10) r12)) (cond (decide (r3 = 2)) (q_let (dz_N196 (q_vw 32 1 73 (q_pt 2 0 71 0 (q_pt 2 0 71 0 (q_pt 2 0 71 0 (q_pt 2 0 71 0 s r5) r6) r7) r8)) r2) fun r13 => (dz_B196_64 (q_vw 2 71 0 (q_pt 2 0 71 0 (q_pt 2 0 71 0 (q_pt 2 0 71 0 (q_pt 2 0 71 0 s r5) r6) r7) r8)) r13 r4).bind fun r14 => some (q_pt 2 0 71 0 (q_pt 2 0 71 0 (q_pt 2 0 71 0 (q_pt 2 0 71 0 (q_pt 2 0 71 0 s r5) r6) r7) r8) r14)) ((dz_N92_65 (q_vw 32 1 73 (q_pt 2 0 71 0 (q_pt 2 0 71 0 (q_pt 2 0 71 0 (q_pt 2 0 71 0 s r5) r6) r7) r8)) (a2 + 1)).bind fun r15 => q_let (dz_N196 (q_vw 32 1 73 (q_pt 2 0 71 0 (q_pt 2 0 71 0 (q_pt 2 0 71 0 (q_pt 2 0 71 0 s r5) r6) r7) r8)) r2) fun r16 => (dz_B196_64 (q_vw 2 71 0 (q_pt 2 0 71 0 (q_pt 2 0 71 0 (q_pt 2 0 71 0 (q_pt 2 0 71 0 s r5) r6) r7) r8)) r16 r15).bind fun r17 => some (q_pt 2 0 71 0 (q_pt 2 0 71 0 (q_pt 2 0 71 0 (q_pt 2 0 71 0 (q_pt 2 0 71 0 s r5) r6) r7) r8) r17))))
set_option maxHeartbeats 4000000 in
theorem dzt_X194_135_66 (z L : Nat) (xs : Nat → Int32) (s : q_S) (c n : Nat) (a2 : Int32) (x : q_S) (h : dz_X194_135_66 s a2 = some x) : q_Ca (q_TBs z L xs) 7 194 [.ref 135, .ref 66, .int a2] (q_kX s c n) ((q_oSX c n) x) := by
  refine q_CaP_of (φ := (q_oSX c n)) (Nat.le_of_ble_eq_true rfl) ?_ h
  clear h
  unfold dz_X194_135_66
  refine q_RP_seg (g2 := (2, [(0, .ref 135), (1, .ref 66), (2, .int a2)], [.int a2, .ref 66], (q_kX s c n))) 2 (fun _ _ => rfl) ?_
  refine q_RP_bd fun r2 er2 => ?_
  refine q_RP_call (v := (some (.int r2))) (h2 := (q_kX s c n)) rfl rfl ((q_emNX_1p rfl (fun _ => rfl) ((dzt_N90_65 (q_vw 32 1 73 s) c n a2 r2 er2).tb q_TB0_le)).le (Nat.le_of_ble_eq_true rfl)) ?_
  show q_RP _ _ _ (5, [(0, .ref 135), (1, .ref 66), (2, .int a2)], [.int r2], (q_kX s c n)) _ _
  refine q_RP_seg (g2 := (7, [(3, .int r2), (0, .ref 135), (1, .ref 66), (2, .int a2)], [.int r2], (q_kX s c n))) 2 (fun _ _ => rfl) ?_
  refine q_RP_call (v := (some (.int (dz_N190 (q_vw 32 1 73 s) r2)))) (h2 := (q_kX s c n)) rfl rfl ((q_emNX_1p rfl (fun _ => rfl) ((dzt_N190 (q_vw 32 1 73 s) c n r2).tb q_TB0_le)).le (Nat.le_of_ble_eq_true rfl)) ?_
  generalize dz_N190 (q_vw 32 1 73 s) r2 = r3
  refine q_RP_let ?_
  show q_RP _ _ _ (10, [(3, .int r2), (0, .ref 135), (1, .ref 66), (2, .int a2)], [.int r3], (q_kX s c n)) _ _
  refine q_RP_seg (g2 := (20, [(4, .int r3), (3, .int r2), (0, .ref 135), (1, .ref 66), (2, .int a2)], [.int ((a2 + 1) &&& 4095), .ref 66], (q_kX s c n))) 7 (fun _ _ => rfl) ?_
  refine q_RP_bd fun r4 er4 => ?_
  refine q_RP_call (v := (some (.int r4))) (h2 := (q_kX s c n)) rfl rfl ((q_emNX_1p rfl (fun _ => rfl) ((dzt_N90_65 (q_vw 32 1 73 s) c n ((a2 + 1) &&& 4095) r4 er4).tb q_TB0_le)).le (Nat.le_of_ble_eq_true rfl)) ?_
  show q_RP _ _ _ (23, [(4, .int r3), (3, .int r2), (0, .ref 135), (1, .ref 66), (2, .int a2)], [.int r4], (q_kX s c n)) _ _
  refine q_RP_seg (g2 := (27, [(5, .int r4), (4, .int r3), (3, .int r2), (0, .ref 135), (1, .ref 66), (2, .int a2)], [.int 0, .ref 135], (q_kX s c n))) 3 (fun _ _ => rfl) ?_
  refine q_RP_bd fun r5 er5 => ?_
  refine q_RP_call (v := none) (h2 := (q_kX (q_pt 2 0 71 0 s r5) c n)) rfl rfl ((q_emBX rfl (fun _ => rfl) (dzt_B328_64 z L xs (q_vw 2 71 0 s) c n 0 r5 er5)).le (Nat.le_of_ble_eq_true rfl)) ?_
  show q_RP _ _ _ (30, [(5, .int r4), (4, .int r3), (3, .int r2), (0, .ref 135), (1, .ref 66), (2, .int a2)], [], (q_kX (q_pt 2 0 71 0 s r5) c n)) _ _
  refine q_RP_seg (g2 := (32, [(5, .int r4), (4, .int r3), (3, .int r2), (0, .ref 135), (1, .ref 66), (2, .int a2)], [.int a2, .ref 135], (q_kX (q_pt 2 0 71 0 s r5) c n))) 2 (fun _ _ => rfl) ?_
  refine q_RP_bd fun r6 er6 => ?_
  refine q_RP_call (v := (some (.ref 135))) (h2 := (q_kX (q_pt 2 0 71 0 (q_pt 2 0 71 0 s r5) r6) c n)) rfl rfl ((q_emBXr rfl (dzt_B326_64 z L xs (q_vw 2 71 0 (q_pt 2 0 71 0 s r5)) c n a2 r6 er6)).le (Nat.le_of_ble_eq_true rfl)) ?_
  show q_RP _ _ _ (35, [(5, .int r4), (4, .int r3), (3, .int r2), (0, .ref 135), (1, .ref 66), (2, .int a2)], [.ref 135], (q_kX (q_pt 2 0 71 0 (q_pt 2 0 71 0 s r5) r6) c n)) _ _
  refine q_RP_seg (g2 := (39, [(5, .int r4), (4, .int r3), (3, .int r2), (0, .ref 135), (1, .ref 66), (2, .int a2)], [.int 32, .ref 135], (q_kX (q_pt 2 0 71 0 (q_pt 2 0 71 0 s r5) r6) c n))) 3 (fun _ _ => rfl) ?_
  refine q_RP_bd fun r7 er7 => ?_
  refine q_RP_call (v := (some (.ref 135))) (h2 := (q_kX (q_pt 2 0 71 0 (q_pt 2 0 71 0 (q_pt 2 0 71 0 s r5) r6) r7) c n)) rfl rfl ((q_emBXr rfl (dzt_B325_64 z L xs (q_vw 2 71 0 (q_pt 2 0 71 0 (q_pt 2 0 71 0 s r5) r6)) c n 32 r7 er7)).le (Nat.le_of_ble_eq_true rfl)) ?_
  show q_RP _ _ _ (42, [(5, .int r4), (4, .int r3), (3, .int r2), (0, .ref 135), (1, .ref 66), (2, .int a2)], [.ref 135], (q_kX (q_pt 2 0 71 0 (q_pt 2 0 71 0 (q_pt 2 0 71 0 s r5) r6) r7) c n)) _ _
  refine q_RP_seg (g2 := (45, [(5, .int r4), (4, .int r3), (3, .int r2), (0, .ref 135), (1, .ref 66), (2, .int a2)], [.int r2, .ref 135], (q_kX (q_pt 2 0 71 0 (q_pt 2 0 71 0 (q_pt 2 0 71 0 s r5) r6) r7) c n))) 3 (fun _ _ => rfl) ?_
  refine q_RP_bd fun r8 er8 => ?_
  refine q_RP_call (v := none) (h2 := (q_kX (q_pt 2 0 71 0 (q_pt 2 0 71 0 (q_pt 2 0 71 0 (q_pt 2 0 71 0 s r5) r6) r7) r8) c n)) rfl rfl ((q_emBX rfl (fun _ => rfl) (dzt_B193_64 z L xs (q_vw 2 71 0 (q_pt 2 0 71 0 (q_pt 2 0 71 0 (q_pt 2 0 71 0 s r5) r6) r7)) c n r2 r8 er8)).le (Nat.le_of_ble_eq_true rfl)) ?_
  show q_RP _ _ _ (48, [(5, .int r4), (4, .int r3), (3, .int r2), (0, .ref 135), (1, .ref 66), (2, .int a2)], [], (q_kX (q_pt 2 0 71 0 (q_pt 2 0 71 0 (q_pt 2 0 71 0 (q_pt 2 0 71 0 s r5) r6) r7) r8) c n)) _ _
  refine q_RP_seg (g2 := (51, [(5, .int r4), (4, .int r3), (3, .int r2), (0, .ref 135), (1, .ref 66), (2, .int a2)], [.int 1, .int r3], (q_kX (q_pt 2 0 71 0 (q_pt 2 0 71 0 (q_pt 2 0 71 0 (q_pt 2 0 71 0 s r5) r6) r7) r8) c n))) 2 (fun _ _ => rfl) ?_
  cases h1 : decide (r3 = 1) with
  | true =>
    refine q_RP_cT ?_
    refine q_RP_rsF (g2 := (54, [(5, .int r4), (4, .int r3), (3, .int r2), (0, .ref 135), (1, .ref 66), (2, .int a2)], [], (q_kX (q_pt 2 0 71 0 (q_pt 2 0 71 0 (q_pt 2 0 71 0 (q_pt 2 0 71 0 s r5) r6) r7) r8) c n))) rfl rfl (q_d_neT h1) ?_
    exact q_RP_ret rfl rfl rfl
  | false =>
    refine q_RP_cF ?_
    refine q_RP_rsT (g2 := (55, [(5, .int r4), (4, .int r3), (3, .int r2), (0, .ref 135), (1, .ref 66), (2, .int a2)], [], (q_kX (q_pt 2 0 71 0 (q_pt 2 0 71 0 (q_pt 2 0 71 0 (q_pt 2 0 71 0 s r5) r6) r7) r8) c n))) rfl rfl (q_d_neF h1) ?_
    refine q_RP_seg (g2 := (56, [(5, .int r4), (4, .int r3), (3, .int r2), (0, .ref 135), (1, .ref 66), (2, .int a2)], [.int r2], (q_kX (q_pt 2 0 71 0 (q_pt 2 0 71 0 (q_pt 2 0 71 0 (q_pt 2 0 71 0 s r5) r6) r7) r8) c n))) 1 (fun _ _ => rfl) ?_
    refine q_RP_call (v := (some (.int (q_b (dz_N187 (q_vw 32 1 73 (q_pt 2 0 71 0 (q_pt 2 0 71 0 (q_pt 2 0 71 0 (q_pt 2 0 71 0 s r5) r6) r7) r8)) r2))))) (h2 := (q_kX (q_pt 2 0 71 0 (q_pt 2 0 71 0 (q_pt 2 0 71 0 (q_pt 2 0 71 0 s r5) r6) r7) r8) c n)) rfl rfl ((q_emNX_1p rfl (fun _ => rfl) ((dzt_N187 (q_vw 32 1 73 (q_pt 2 0 71 0 (q_pt 2 0 71 0 (q_pt 2 0 71 0 (q_pt 2 0 71 0 s r5) r6) r7) r8)) c n r2).tb q_TB0_le)).le (Nat.le_of_ble_eq_true rfl)) ?_
    generalize dz_N187 (q_vw 32 1 73 (q_pt 2 0 71 0 (q_pt 2 0 71 0 (q_pt 2 0 71 0 (q_pt 2 0 71 0 s r5) r6) r7) r8)) r2 = r9
    refine q_RP_let ?_
    show q_RP _ _ _ (59, [(5, .int r4), (4, .int r3), (3, .int r2), (0, .ref 135), (1, .ref 66), (2, .int a2)], [.int (q_b r9)], (q_kX (q_pt 2 0 71 0 (q_pt 2 0 71 0 (q_pt 2 0 71 0 (q_pt 2 0 71 0 s r5) r6) r7) r8) c n)) _ _
    cases h2 : r9 with
    | true =>
      refine q_RP_cT ?_
      show q_RP _ _ _ (59, [(5, .int r4), (4, .int r3), (3, .int r2), (0, .ref 135), (1, .ref 66), (2, .int a2)], [.int 1], (q_kX (q_pt 2 0 71 0 (q_pt 2 0 71 0 (q_pt 2 0 71 0 (q_pt 2 0 71 0 s r5) r6) r7) r8) c n)) _ _
      refine q_RP_seg (g2 := (65, [(5, .int r4), (4, .int r3), (3, .int r2), (0, .ref 135), (1, .ref 66), (2, .int a2)], [.int 32, .ref 135], (q_kX (q_pt 2 0 71 0 (q_pt 2 0 71 0 (q_pt 2 0 71 0 (q_pt 2 0 71 0 s r5) r6) r7) r8) c n))) 3 (fun _ _ => rfl) ?_
      refine q_RP_bd fun r10 er10 => ?_
      refine q_RP_call (v := (some (.ref 135))) (h2 := (q_kX (q_pt 2 0 71 0 (q_pt 2 0 71 0 (q_pt 2 0 71 0 (q_pt 2 0 71 0 (q_pt 2 0 71 0 s r5) r6) r7) r8) r10) c n)) rfl rfl ((q_emBXr rfl (dzt_B325_64 z L xs (q_vw 2 71 0 (q_pt 2 0 71 0 (q_pt 2 0 71 0 (q_pt 2 0 71 0 (q_pt 2 0 71 0 s r5) r6) r7) r8)) c n 32 r10 er10)).le (Nat.le_of_ble_eq_true rfl)) ?_
      show q_RP _ _ _ (68, [(5, .int r4), (4, .int r3), (3, .int r2), (0, .ref 135), (1, .ref 66), (2, .int a2)], [.ref 135], (q_kX (q_pt 2 0 71 0 (q_pt 2 0 71 0 (q_pt 2 0 71 0 (q_pt 2 0 71 0 (q_pt 2 0 71 0 s r5) r6) r7) r8) r10) c n)) _ _
      refine q_RP_seg (g2 := (73, [(5, .int r4), (4, .int r3), (3, .int r2), (0, .ref 135), (1, .ref 66), (2, .int a2)], [.int r4, .int a2, .ref 135], (q_kX (q_pt 2 0 71 0 (q_pt 2 0 71 0 (q_pt 2 0 71 0 (q_pt 2 0 71 0 (q_pt 2 0 71 0 s r5) r6) r7) r8) r10) c n))) 4 (fun _ _ => rfl) ?_
      refine q_RP_call (v := (some (.int (dz_N193 (q_vw 32 1 73 (q_pt 2 0 71 0 (q_pt 2 0 71 0 (q_pt 2 0 71 0 (q_pt 2 0 71 0 (q_pt 2 0 71 0 s r5) r6) r7) r8) r10)) a2 r4)))) (h2 := (q_kX (q_pt 2 0 71 0 (q_pt 2 0 71 0 (q_pt 2 0 71 0 (q_pt 2 0 71 0 (q_pt 2 0 71 0 s r5) r6) r7) r8) r10) c n)) rfl rfl ((q_emNX_1p rfl (fun _ => rfl) ((dzt_N193 (q_vw 32 1 73 (q_pt 2 0 71 0 (q_pt 2 0 71 0 (q_pt 2 0 71 0 (q_pt 2 0 71 0 (q_pt 2 0 71 0 s r5) r6) r7) r8) r10)) c n a2 r4).tb q_TB0_le)).le (Nat.le_of_ble_eq_true rfl)) ?_
      generalize dz_N193 (q_vw 32 1 73 (q_pt 2 0 71 0 (q_pt 2 0 71 0 (q_pt 2 0 71 0 (q_pt 2 0 71 0 (q_pt 2 0 71 0 s r5) r6) r7) r8) r10)) a2 r4 = r11
      refine q_RP_let ?_
      show q_RP _ _ _ (76, [(5, .int r4), (4, .int r3), (3, .int r2), (0, .ref 135), (1, .ref 66), (2, .int a2)], [.int r11, .ref 135], (q_kX (q_pt 2 0 71 0 (q_pt 2 0 71 0 (q_pt 2 0 71 0 (q_pt 2 0 71 0 (q_pt 2 0 71 0 s r5) r6) r7) r8) r10) c n)) _ _
      refine q_RP_bd fun r12 er12 => ?_
      refine q_RP_call (v := (some (.ref 135))) (h2 := (q_kX (q_pt 2 0 71 0 (q_pt 2 0 71 0 (q_pt 2 0 71 0 (q_pt 2 0 71 0 (q_pt 2 0 71 0 (q_pt 2 0 71 0 s r5) r6) r7) r8) r10) r12) c n)) rfl rfl ((q_emBXr rfl (dzt_B326_64 z L xs (q_vw 2 71 0 (q_pt 2 0 71 0 (q_pt 2 0 71 0 (q_pt 2 0 71 0 (q_pt 2 0 71 0 (q_pt 2 0 71 0 s r5) r6) r7) r8) r10)) c n r11 r12 er12)).le (Nat.le_of_ble_eq_true rfl)) ?_
      show q_RP _ _ _ (79, [(5, .int r4), (4, .int r3), (3, .int r2), (0, .ref 135), (1, .ref 66), (2, .int a2)], [.ref 135], (q_kX (q_pt 2 0 71 0 (q_pt 2 0 71 0 (q_pt 2 0 71 0 (q_pt 2 0 71 0 (q_pt 2 0 71 0 (q_pt 2 0 71 0 s r5) r6) r7) r8) r10) r12) c n)) _ _
      refine q_RP_seg (g2 := (80, [(5, .int r4), (4, .int r3), (3, .int r2), (0, .ref 135), (1, .ref 66), (2, .int a2)], [], (q_kX (q_pt 2 0 71 0 (q_pt 2 0 71 0 (q_pt 2 0 71 0 (q_pt 2 0 71 0 (q_pt 2 0 71 0 (q_pt 2 0 71 0 s r5) r6) r7) r8) r10) r12) c n))) 1 (fun _ _ => rfl) ?_
      exact q_RP_ret rfl rfl rfl
    | false =>
      refine q_RP_cF ?_
      show q_RP _ _ _ (59, [(5, .int r4), (4, .int r3), (3, .int r2), (0, .ref 135), (1, .ref 66), (2, .int a2)], [.int 0], (q_kX (q_pt 2 0 71 0 (q_pt 2 0 71 0 (q_pt 2 0 71 0 (q_pt 2 0 71 0 s r5) r6) r7) r8) c n)) _ _
      refine q_RP_seg (g2 := (84, [(5, .int r4), (4, .int r3), (3, .int r2), (0, .ref 135), (1, .ref 66), (2, .int a2)], [.int 2, .int r3], (q_kX (q_pt 2 0 71 0 (q_pt 2 0 71 0 (q_pt 2 0 71 0 (q_pt 2 0 71 0 s r5) r6) r7) r8) c n))) 3 (fun _ _ => rfl) ?_
      cases h3 : decide (r3 = 2) with
      | true =>
        refine q_RP_cT ?_
        refine q_RP_rsF (g2 := (87, [(5, .int r4), (4, .int r3), (3, .int r2), (0, .ref 135), (1, .ref 66), (2, .int a2)], [], (q_kX (q_pt 2 0 71 0 (q_pt 2 0 71 0 (q_pt 2 0 71 0 (q_pt 2 0 71 0 s r5) r6) r7) r8) c n))) rfl rfl (q_d_neT h3) ?_
        refine q_RP_seg (g2 := (103, [(6, .int r4), (5, .int r4), (4, .int r3), (3, .int r2), (0, .ref 135), (1, .ref 66), (2, .int a2)], [.int r2, .ref 135], (q_kX (q_pt 2 0 71 0 (q_pt 2 0 71 0 (q_pt 2 0 71 0 (q_pt 2 0 71 0 s r5) r6) r7) r8) c n))) 5 (fun _ _ => rfl) ?_
        refine q_RP_call (v := (some (.int (dz_N196 (q_vw 32 1 73 (q_pt 2 0 71 0 (q_pt 2 0 71 0 (q_pt 2 0 71 0 (q_pt 2 0 71 0 s r5) r6) r7) r8)) r2)))) (h2 := (q_kX (q_pt 2 0 71 0 (q_pt 2 0 71 0 (q_pt 2 0 71 0 (q_pt 2 0 71 0 s r5) r6) r7) r8) c n)) rfl rfl ((q_emNX_1p rfl (fun _ => rfl) ((dzt_N196 (q_vw 32 1 73 (q_pt 2 0 71 0 (q_pt 2 0 71 0 (q_pt 2 0 71 0 (q_pt 2 0 71 0 s r5) r6) r7) r8)) c n r2).tb q_TB0_le)).le (Nat.le_of_ble_eq_true rfl)) ?_
        generalize dz_N196 (q_vw 32 1 73 (q_pt 2 0 71 0 (q_pt 2 0 71 0 (q_pt 2 0 71 0 (q_pt 2 0 71 0 s r5) r6) r7) r8)) r2 = r13
        refine q_RP_let ?_
        show q_RP _ _ _ (106, [(6, .int r4), (5, .int r4), (4, .int r3), (3, .int r2), (0, .ref 135), (1, .ref 66), (2, .int a2)], [.int r13, .ref 135], (q_kX (q_pt 2 0 71 0 (q_pt 2 0 71 0 (q_pt 2 0 71 0 (q_pt 2 0 71 0 s r5) r6) r7) r8) c n)) _ _
        refine q_RP_seg (g2 := (108, [(6, .int r4), (5, .int r4), (4, .int r3), (3, .int r2), (0, .ref 135), (1, .ref 66), (2, .int a2)], [.int r4, .int r13, .ref 135], (q_kX (q_pt 2 0 71 0 (q_pt 2 0 71 0 (q_pt 2 0 71 0 (q_pt 2 0 71 0 s r5) r6) r7) r8) c n))) 1 (fun _ _ => rfl) ?_
        refine q_RP_bd fun r14 er14 => ?_
        refine q_RP_call (v := none) (h2 := (q_kX (q_pt 2 0 71 0 (q_pt 2 0 71 0 (q_pt 2 0 71 0 (q_pt 2 0 71 0 (q_pt 2 0 71 0 s r5) r6) r7) r8) r14) c n)) rfl rfl ((q_emBX rfl (fun _ => rfl) (dzt_B196_64 z L xs (q_vw 2 71 0 (q_pt 2 0 71 0 (q_pt 2 0 71 0 (q_pt 2 0 71 0 (q_pt 2 0 71 0 s r5) r6) r7) r8)) c n r13 r4 r14 er14)).le (Nat.le_of_ble_eq_true rfl)) ?_
        show q_RP _ _ _ (111, [(6, .int r4), (5, .int r4), (4, .int r3), (3, .int r2), (0, .ref 135), (1, .ref 66), (2, .int a2)], [], (q_kX (q_pt 2 0 71 0 (q_pt 2 0 71 0 (q_pt 2 0 71 0 (q_pt 2 0 71 0 (q_pt 2 0 71 0 s r5) r6) r7) r8) r14) c n)) _ _
        exact q_RP_ret rfl rfl rfl
      | false =>
        refine q_RP_cF ?_
        refine q_RP_rsT (g2 := (92, [(5, .int r4), (4, .int r3), (3, .int r2), (0, .ref 135), (1, .ref 66), (2, .int a2)], [], (q_kX (q_pt 2 0 71 0 (q_pt 2 0 71 0 (q_pt 2 0 71 0 (q_pt 2 0 71 0 s r5) r6) r7) r8) c n))) rfl rfl (q_d_neF h3) ?_
        refine q_RP_seg (g2 := (96, [(5, .int r4), (4, .int r3), (3, .int r2), (0, .ref 135), (1, .ref 66), (2, .int a2)], [.int (a2 + 1), .ref 66], (q_kX (q_pt 2 0 71 0 (q_pt 2 0 71 0 (q_pt 2 0 71 0 (q_pt 2 0 71 0 s r5) r6) r7) r8) c n))) 4 (fun _ _ => rfl) ?_
        refine q_RP_bd fun r15 er15 => ?_
        refine q_RP_call (v := (some (.int r15))) (h2 := (q_kX (q_pt 2 0 71 0 (q_pt 2 0 71 0 (q_pt 2 0 71 0 (q_pt 2 0 71 0 s r5) r6) r7) r8) c n)) rfl rfl ((q_emNX_1p rfl (fun _ => rfl) ((dzt_N92_65 (q_vw 32 1 73 (q_pt 2 0 71 0 (q_pt 2 0 71 0 (q_pt 2 0 71 0 (q_pt 2 0 71 0 s r5) r6) r7) r8)) c n (a2 + 1) r15 er15).tb q_TB0_le)).le (Nat.le_of_ble_eq_true rfl)) ?_
        show q_RP _ _ _ (99, [(5, .int r4), (4, .int r3), (3, .int r2), (0, .ref 135), (1, .ref 66), (2, .int a2)], [.int r15], (q_kX (q_pt 2 0 71 0 (q_pt 2 0 71 0 (q_pt 2 0 71 0 (q_pt 2 0 71 0 s r5) r6) r7) r8) c n)) _ _
        refine q_RP_seg (g2 := (103, [(6, .int r15), (5, .int r4), (4, .int r3), (3, .int r2), (0, .ref 135), (1, .ref 66), (2, .int a2)], [.int r2, .ref 135], (q_kX (q_pt 2 0 71 0 (q_pt 2 0 71 0 (q_pt 2 0 71 0 (q_pt 2 0 71 0 s r5) r6) r7) r8) c n))) 3 (fun _ _ => rfl) ?_
        refine q_RP_call (v := (some (.int (dz_N196 (q_vw 32 1 73 (q_pt 2 0 71 0 (q_pt 2 0 71 0 (q_pt 2 0 71 0 (q_pt 2 0 71 0 s r5) r6) r7) r8)) r2)))) (h2 := (q_kX (q_pt 2 0 71 0 (q_pt 2 0 71 0 (q_pt 2 0 71 0 (q_pt 2 0 71 0 s r5) r6) r7) r8) c n)) rfl rfl ((q_emNX_1p rfl (fun _ => rfl) ((dzt_N196 (q_vw 32 1 73 (q_pt 2 0 71 0 (q_pt 2 0 71 0 (q_pt 2 0 71 0 (q_pt 2 0 71 0 s r5) r6) r7) r8)) c n r2).tb q_TB0_le)).le (Nat.le_of_ble_eq_true rfl)) ?_
        generalize dz_N196 (q_vw 32 1 73 (q_pt 2 0 71 0 (q_pt 2 0 71 0 (q_pt 2 0 71 0 (q_pt 2 0 71 0 s r5) r6) r7) r8)) r2 = r16
        refine q_RP_let ?_
        show q_RP _ _ _ (106, [(6, .int r15), (5, .int r4), (4, .int r3), (3, .int r2), (0, .ref 135), (1, .ref 66), (2, .int a2)], [.int r16, .ref 135], (q_kX (q_pt 2 0 71 0 (q_pt 2 0 71 0 (q_pt 2 0 71 0 (q_pt 2 0 71 0 s r5) r6) r7) r8) c n)) _ _
        refine q_RP_seg (g2 := (108, [(6, .int r15), (5, .int r4), (4, .int r3), (3, .int r2), (0, .ref 135), (1, .ref 66), (2, .int a2)], [.int r15, .int r16, .ref 135], (q_kX (q_pt 2 0 71 0 (q_pt 2 0 71 0 (q_pt 2 0 71 0 (q_pt 2 0 71 0 s r5) r6) r7) r8) c n))) 1 (fun _ _ => rfl) ?_
        refine q_RP_bd fun r17 er17 => ?_
        refine q_RP_call (v := none) (h2 := (q_kX (q_pt 2 0 71 0 (q_pt 2 0 71 0 (q_pt 2 0 71 0 (q_pt 2 0 71 0 (q_pt 2 0 71 0 s r5) r6) r7) r8) r17) c n)) rfl rfl ((q_emBX rfl (fun _ => rfl) (dzt_B196_64 z L xs (q_vw 2 71 0 (q_pt 2 0 71 0 (q_pt 2 0 71 0 (q_pt 2 0 71 0 (q_pt 2 0 71 0 s r5) r6) r7) r8)) c n r16 r15 r17 er17)).le (Nat.le_of_ble_eq_true rfl)) ?_
        show q_RP _ _ _ (111, [(6, .int r15), (5, .int r4), (4, .int r3), (3, .int r2), (0, .ref 135), (1, .ref 66), (2, .int a2)], [], (q_kX (q_pt 2 0 71 0 (q_pt 2 0 71 0 (q_pt 2 0 71 0 (q_pt 2 0 71 0 (q_pt 2 0 71 0 s r5) r6) r7) r8) r17) c n)) _ _
        exact q_RP_ret rfl rfl rfl
def dz_X6_64_236 (s : q_S) (a1 : Int32) : Option (q_S × Int32 × Nat) :=
  cond (decide (a1 < 0)) (some (s, 1, 1)) (cond (decide (a1 < 4096)) ((dz_X194_135_66 s a1).bind fun r1 => q_let (dz_B329_64 (q_vw 2 71 0 r1)) fun r2 => some ((q_sL r1 172 (vp_updL (r1.2.2 172) 0 r2.toInt64)), 0, 0)) (some (s, 1, 1)))
set_option maxHeartbeats 4000000 in
theorem dzt_X6_64_236 (z L : Nat) (xs : Nat → Int32) (s : q_S) (c n : Nat) (a1 : Int32) (x : q_S × Int32 × Nat) (h : dz_X6_64_236 s a1 = some x) : q_Ca (q_TBs z L xs) 10 6 [.ref 64, .int a1, .ref 236] (q_kX s c n) ((q_oEX c n) x) := by
  refine q_CaP_of (φ := (q_oEX c n)) (Nat.le_of_ble_eq_true rfl) ?_ h
  clear h
  unfold dz_X6_64_236
  refine q_RP_seg (g2 := (4, [(0, .ref 64), (1, .int a1), (2, .ref 236)], [.int a1, .ref 64, .int 0, .ref 236], (q_kX s c n))) 4 (fun _ _ => rfl) ?_
  cases h3 : decide (a1 < 0) with
  | true =>
    refine q_RP_cT ?_
    refine q_RP_callH (E := "java/lang/IndexOutOfBoundsException") (tg := 13) (i := 3) (h2 := (q_kX s (c + 1) (n + 6))) rfl rfl ?_ rfl ?_
    · refine q_Ca_of (Nat.le_of_ble_eq_true rfl) ?_
      refine q_Ru_seg (g2 := (1, [(0, .ref 64), (1, .int a1)], [.int a1], (q_kX s c n))) 1 (fun _ _ => rfl) ?_
      refine q_Ru_callX (E := "java/lang/IndexOutOfBoundsException") (h2 := (q_kX s (c + 1) (n + 6))) rfl rfl ?_
      refine q_Ca_of (Nat.le_of_ble_eq_true rfl) ?_
      refine q_Ru_seg (g2 := (4, [(0, .int a1)], [.int 4096, .int a1], (q_kX s c n))) 2 (fun _ _ => rfl) ?_
      refine q_Ru_callX (E := "java/lang/IndexOutOfBoundsException") (h2 := (q_kX s (c + 1) (n + 6))) rfl rfl ?_
      refine q_Ca_of (Nat.le_of_ble_eq_true rfl) ?_
      refine q_Ru_seg (g2 := (1, [(0, .int a1), (1, .int 4096)], [.int a1], (q_kX s c n))) 1 (fun _ _ => rfl) ?_
      refine q_Ru_rsT (g2 := (9, [(0, .int a1), (1, .int 4096)], [], (q_kX s c n))) rfl rfl h3 ?_
      exact q_Ru_thr rfl rfl
    show q_RP _ _ _ (13, [(0, .ref 64), (1, .int a1), (2, .ref 236)], [], (q_kX s (c + 1) (n + 6))) _ _
    refine q_RP_seg (g2 := (14, [(0, .ref 64), (1, .int a1), (2, .ref 236)], [.int 1], (q_kX s (c + 1) (n + 6)))) 1 (fun _ _ => rfl) ?_
    exact q_RP_ret rfl rfl rfl
  | false =>
    refine q_RP_cF ?_
    cases h4 : decide (a1 < 4096) with
    | true =>
      refine q_RP_cT ?_
      refine q_RP_bd fun r1 er1 => ?_
      generalize er2 : dz_B329_64 (q_vw 2 71 0 r1) = r2
      refine q_RP_let ?_
      refine q_RP_call (v := (some (.int r2))) (h2 := (q_kX r1 c n)) rfl rfl ?_ ?_
      · refine q_Ca_of (Nat.le_of_ble_eq_true rfl) ?_
        refine q_Ru_seg (g2 := (1, [(0, .ref 64), (1, .int a1)], [.int a1], (q_kX s c n))) 1 (fun _ _ => rfl) ?_
        refine q_Ru_call (v := none) (h2 := (q_kX s c n)) rfl rfl ?_ ?_
        · refine q_Ca_of (Nat.le_of_ble_eq_true rfl) ?_
          refine q_Ru_seg (g2 := (4, [(0, .int a1)], [.int 4096, .int a1], (q_kX s c n))) 2 (fun _ _ => rfl) ?_
          refine q_Ru_call (v := none) (h2 := (q_kX s c n)) rfl rfl ?_ ?_
          · refine q_Ca_of (Nat.le_of_ble_eq_true rfl) ?_
            refine q_Ru_seg (g2 := (1, [(0, .int a1), (1, .int 4096)], [.int a1], (q_kX s c n))) 1 (fun _ _ => rfl) ?_
            refine q_Ru_rsF (g2 := (4, [(0, .int a1), (1, .int 4096)], [], (q_kX s c n))) rfl rfl h3 ?_
            refine q_Ru_seg (g2 := (6, [(0, .int a1), (1, .int 4096)], [.int 4096, .int a1], (q_kX s c n))) 2 (fun _ _ => rfl) ?_
            refine q_Ru_rsT (g2 := (19, [(0, .int a1), (1, .int 4096)], [], (q_kX s c n))) rfl rfl h4 ?_
            exact q_Ru_ret rfl rfl
          show q_Ru _ _ _ (7, [(0, .int a1)], [], (q_kX s c n)) _
          exact q_Ru_ret rfl rfl
        show q_Ru _ _ _ (4, [(0, .ref 64), (1, .int a1)], [], (q_kX s c n)) _
        refine q_Ru_seg (g2 := (16, [(0, .ref 64), (1, .int a1)], [.int a1, .ref 66, .ref 135], (q_kX s c n))) 6 (fun _ _ => rfl) ?_
        refine q_Ru_call (v := none) (h2 := (q_kX r1 c n)) rfl rfl ?_ ?_
        · exact (dzt_X194_135_66 z L xs s c n a1 r1 er1).le (Nat.le_of_ble_eq_true rfl)
        show q_Ru _ _ _ (19, [(0, .ref 64), (1, .int a1)], [], (q_kX r1 c n)) _
        refine q_Ru_seg (g2 := (23, [(0, .ref 64), (1, .int a1)], [.ref 135], (q_kX r1 c n))) 2 (fun _ _ => rfl) ?_
        refine q_Ru_call (v := (some (.int r2))) (h2 := (q_kX r1 c n)) rfl rfl ?_ ?_
        · exact (q_emBXp rfl (fun _ => rfl) (q_cE (φ := (q_oP (q_kB (q_vw 2 71 0 r1) c n))) er2 (dzt_B329_64 z L xs (q_vw 2 71 0 r1) c n))).le (Nat.le_of_ble_eq_true rfl)
        show q_Ru _ _ _ (26, [(0, .ref 64), (1, .int a1)], [.int r2], (q_kX r1 c n)) _
        exact q_Ru_ret rfl rfl
      show q_RP _ _ _ (7, [(0, .ref 64), (1, .int a1), (2, .ref 236)], [.int r2, .int 0, .ref 236], (q_kX r1 c n)) _ _
      refine q_RP_seg (g2 := (8, [(0, .ref 64), (1, .int a1), (2, .ref 236)], [.long r2.toInt64, .int 0, .ref 236], (q_kX r1 c n))) 1 (fun _ _ => rfl) ?_
      refine q_RP_rsT (g2 := (9, [(0, .ref 64), (1, .int a1), (2, .ref 236)], [], (q_kX (q_sL r1 172 (vp_updL (r1.2.2 172) 0 r2.toInt64)) c n))) rfl q_wX172 rfl ?_
      refine q_RP_seg (g2 := (16, [(0, .ref 64), (1, .int a1), (2, .ref 236)], [.int 0], (q_kX (q_sL r1 172 (vp_updL (r1.2.2 172) 0 r2.toInt64)) c n))) 2 (fun _ _ => rfl) ?_
      exact q_RP_ret rfl rfl rfl
    | false =>
      refine q_RP_cF ?_
      refine q_RP_callH (E := "java/lang/IndexOutOfBoundsException") (tg := 13) (i := 3) (h2 := (q_kX s (c + 1) (n + 6))) rfl rfl ?_ rfl ?_
      · refine q_Ca_of (Nat.le_of_ble_eq_true rfl) ?_
        refine q_Ru_seg (g2 := (1, [(0, .ref 64), (1, .int a1)], [.int a1], (q_kX s c n))) 1 (fun _ _ => rfl) ?_
        refine q_Ru_callX (E := "java/lang/IndexOutOfBoundsException") (h2 := (q_kX s (c + 1) (n + 6))) rfl rfl ?_
        refine q_Ca_of (Nat.le_of_ble_eq_true rfl) ?_
        refine q_Ru_seg (g2 := (4, [(0, .int a1)], [.int 4096, .int a1], (q_kX s c n))) 2 (fun _ _ => rfl) ?_
        refine q_Ru_callX (E := "java/lang/IndexOutOfBoundsException") (h2 := (q_kX s (c + 1) (n + 6))) rfl rfl ?_
        refine q_Ca_of (Nat.le_of_ble_eq_true rfl) ?_
        refine q_Ru_seg (g2 := (1, [(0, .int a1), (1, .int 4096)], [.int a1], (q_kX s c n))) 1 (fun _ _ => rfl) ?_
        refine q_Ru_rsF (g2 := (4, [(0, .int a1), (1, .int 4096)], [], (q_kX s c n))) rfl rfl h3 ?_
        refine q_Ru_seg (g2 := (6, [(0, .int a1), (1, .int 4096)], [.int 4096, .int a1], (q_kX s c n))) 2 (fun _ _ => rfl) ?_
        refine q_Ru_rsF (g2 := (9, [(0, .int a1), (1, .int 4096)], [], (q_kX s c n))) rfl rfl h4 ?_
        exact q_Ru_thr rfl rfl
      show q_RP _ _ _ (13, [(0, .ref 64), (1, .int a1), (2, .ref 236)], [], (q_kX s (c + 1) (n + 6))) _ _
      refine q_RP_seg (g2 := (14, [(0, .ref 64), (1, .int a1), (2, .ref 236)], [.int 1], (q_kX s (c + 1) (n + 6)))) 1 (fun _ _ => rfl) ?_
      exact q_RP_ret rfl rfl rfl
def dz_X7_64_236 (s : q_S) (a1 : Int32) : Option (q_S × Int32 × Nat) :=
  q_let (dz_B329_64 (q_vw 2 71 0 s)) fun r2 => cond (decide (a1 < 0)) (some (s, 1, 1)) (cond (decide (a1 < r2)) ((dz_B327_64 (q_vw 2 71 0 s) a1).bind fun r3 => cond (decide (vp_nar .char r3 = r3)) (some ((q_sL s 172 (vp_updL (s.2.2 172) 0 r3.toInt64)), 0, 0)) none) (some (s, 1, 1)))
set_option maxHeartbeats 4000000 in
theorem dzt_X7_64_236 (z L : Nat) (xs : Nat → Int32) (s : q_S) (c n : Nat) (a1 : Int32) (x : q_S × Int32 × Nat) (h : dz_X7_64_236 s a1 = some x) : q_Ca (q_TBs z L xs) 7 7 [.ref 64, .int a1, .ref 236] (q_kX s c n) ((q_oEX c n) x) := by
  refine q_CaP_of (φ := (q_oEX c n)) (Nat.le_of_ble_eq_true rfl) ?_ h
  clear h
  unfold dz_X7_64_236
  refine q_RP_seg (g2 := (4, [(0, .ref 64), (1, .int a1), (2, .ref 236)], [.int a1, .ref 64, .int 0, .ref 236], (q_kX s c n))) 4 (fun _ _ => rfl) ?_
  generalize er2 : dz_B329_64 (q_vw 2 71 0 s) = r2
  refine q_RP_let ?_
  cases h3 : decide (a1 < 0) with
  | true =>
    refine q_RP_cT ?_
    refine q_RP_callH (E := "java/lang/IndexOutOfBoundsException") (tg := 13) (i := 3) (h2 := (q_kX s (c + 1) (n + 6))) rfl rfl ?_ rfl ?_
    · refine q_Ca_of (Nat.le_of_ble_eq_true rfl) ?_
      refine q_Ru_seg (g2 := (5, [(0, .ref 64), (1, .int a1)], [.ref 135, .int a1], (q_kX s c n))) 3 (fun _ _ => rfl) ?_
      refine q_Ru_call (v := (some (.int r2))) (h2 := (q_kX s c n)) rfl rfl ?_ ?_
      · exact (q_emBXp rfl (fun _ => rfl) (q_cE (φ := (q_oP (q_kB (q_vw 2 71 0 s) c n))) er2 (dzt_B329_64 z L xs (q_vw 2 71 0 s) c n))).le (Nat.le_of_ble_eq_true rfl)
      show q_Ru _ _ _ (8, [(0, .ref 64), (1, .int a1)], [.int r2, .int a1], (q_kX s c n)) _
      refine q_Ru_callX (E := "java/lang/IndexOutOfBoundsException") (h2 := (q_kX s (c + 1) (n + 6))) rfl rfl ?_
      refine q_Ca_of (Nat.le_of_ble_eq_true rfl) ?_
      refine q_Ru_seg (g2 := (1, [(0, .int a1), (1, .int r2)], [.int a1], (q_kX s c n))) 1 (fun _ _ => rfl) ?_
      refine q_Ru_rsT (g2 := (9, [(0, .int a1), (1, .int r2)], [], (q_kX s c n))) rfl rfl h3 ?_
      exact q_Ru_thr rfl rfl
    show q_RP _ _ _ (13, [(0, .ref 64), (1, .int a1), (2, .ref 236)], [], (q_kX s (c + 1) (n + 6))) _ _
    refine q_RP_seg (g2 := (14, [(0, .ref 64), (1, .int a1), (2, .ref 236)], [.int 1], (q_kX s (c + 1) (n + 6)))) 1 (fun _ _ => rfl) ?_
    exact q_RP_ret rfl rfl rfl
  | false =>
    refine q_RP_cF ?_
    cases h4 : decide (a1 < r2) with
    | true =>
      refine q_RP_cT ?_
      refine q_RP_bd fun r3 er3 => ?_
      refine q_RP_as fun i5 => ?_
      refine q_RP_call (v := (some (.int r3))) (h2 := (q_kX s c n)) rfl rfl ?_ ?_
      · refine q_Ca_of (Nat.le_of_ble_eq_true rfl) ?_
        refine q_Ru_seg (g2 := (5, [(0, .ref 64), (1, .int a1)], [.ref 135, .int a1], (q_kX s c n))) 3 (fun _ _ => rfl) ?_
        refine q_Ru_call (v := (some (.int r2))) (h2 := (q_kX s c n)) rfl rfl ?_ ?_
        · exact (q_emBXp rfl (fun _ => rfl) (q_cE (φ := (q_oP (q_kB (q_vw 2 71 0 s) c n))) er2 (dzt_B329_64 z L xs (q_vw 2 71 0 s) c n))).le (Nat.le_of_ble_eq_true rfl)
        show q_Ru _ _ _ (8, [(0, .ref 64), (1, .int a1)], [.int r2, .int a1], (q_kX s c n)) _
        refine q_Ru_call (v := none) (h2 := (q_kX s c n)) rfl rfl ?_ ?_
        · refine q_Ca_of (Nat.le_of_ble_eq_true rfl) ?_
          refine q_Ru_seg (g2 := (1, [(0, .int a1), (1, .int r2)], [.int a1], (q_kX s c n))) 1 (fun _ _ => rfl) ?_
          refine q_Ru_rsF (g2 := (4, [(0, .int a1), (1, .int r2)], [], (q_kX s c n))) rfl rfl h3 ?_
          refine q_Ru_seg (g2 := (6, [(0, .int a1), (1, .int r2)], [.int r2, .int a1], (q_kX s c n))) 2 (fun _ _ => rfl) ?_
          refine q_Ru_rsT (g2 := (19, [(0, .int a1), (1, .int r2)], [], (q_kX s c n))) rfl rfl h4 ?_
          exact q_Ru_ret rfl rfl
        show q_Ru _ _ _ (11, [(0, .ref 64), (1, .int a1)], [], (q_kX s c n)) _
        refine q_Ru_seg (g2 := (16, [(0, .ref 64), (1, .int a1)], [.int a1, .ref 135], (q_kX s c n))) 3 (fun _ _ => rfl) ?_
        refine q_Ru_call (v := (some (.int r3))) (h2 := (q_kX s c n)) rfl rfl ?_ ?_
        · exact (q_emBXp rfl (fun _ => rfl) (dzt_B327_64 z L xs (q_vw 2 71 0 s) c n a1 r3 er3)).le (Nat.le_of_ble_eq_true rfl)
        show q_Ru _ _ _ (19, [(0, .ref 64), (1, .int a1)], [.int r3], (q_kX s c n)) _
        exact q_Ru_ret rfl (if_pos (of_decide_eq_true i5))
      show q_RP _ _ _ (7, [(0, .ref 64), (1, .int a1), (2, .ref 236)], [.int r3, .int 0, .ref 236], (q_kX s c n)) _ _
      refine q_RP_seg (g2 := (8, [(0, .ref 64), (1, .int a1), (2, .ref 236)], [.long r3.toInt64, .int 0, .ref 236], (q_kX s c n))) 1 (fun _ _ => rfl) ?_
      refine q_RP_rsT (g2 := (9, [(0, .ref 64), (1, .int a1), (2, .ref 236)], [], (q_kX (q_sL s 172 (vp_updL (s.2.2 172) 0 r3.toInt64)) c n))) rfl q_wX172 rfl ?_
      refine q_RP_seg (g2 := (16, [(0, .ref 64), (1, .int a1), (2, .ref 236)], [.int 0], (q_kX (q_sL s 172 (vp_updL (s.2.2 172) 0 r3.toInt64)) c n))) 2 (fun _ _ => rfl) ?_
      exact q_RP_ret rfl rfl rfl
    | false =>
      refine q_RP_cF ?_
      refine q_RP_callH (E := "java/lang/IndexOutOfBoundsException") (tg := 13) (i := 3) (h2 := (q_kX s (c + 1) (n + 6))) rfl rfl ?_ rfl ?_
      · refine q_Ca_of (Nat.le_of_ble_eq_true rfl) ?_
        refine q_Ru_seg (g2 := (5, [(0, .ref 64), (1, .int a1)], [.ref 135, .int a1], (q_kX s c n))) 3 (fun _ _ => rfl) ?_
        refine q_Ru_call (v := (some (.int r2))) (h2 := (q_kX s c n)) rfl rfl ?_ ?_
        · exact (q_emBXp rfl (fun _ => rfl) (q_cE (φ := (q_oP (q_kB (q_vw 2 71 0 s) c n))) er2 (dzt_B329_64 z L xs (q_vw 2 71 0 s) c n))).le (Nat.le_of_ble_eq_true rfl)
        show q_Ru _ _ _ (8, [(0, .ref 64), (1, .int a1)], [.int r2, .int a1], (q_kX s c n)) _
        refine q_Ru_callX (E := "java/lang/IndexOutOfBoundsException") (h2 := (q_kX s (c + 1) (n + 6))) rfl rfl ?_
        refine q_Ca_of (Nat.le_of_ble_eq_true rfl) ?_
        refine q_Ru_seg (g2 := (1, [(0, .int a1), (1, .int r2)], [.int a1], (q_kX s c n))) 1 (fun _ _ => rfl) ?_
        refine q_Ru_rsF (g2 := (4, [(0, .int a1), (1, .int r2)], [], (q_kX s c n))) rfl rfl h3 ?_
        refine q_Ru_seg (g2 := (6, [(0, .int a1), (1, .int r2)], [.int r2, .int a1], (q_kX s c n))) 2 (fun _ _ => rfl) ?_
        refine q_Ru_rsF (g2 := (9, [(0, .int a1), (1, .int r2)], [], (q_kX s c n))) rfl rfl h4 ?_
        exact q_Ru_thr rfl rfl
      show q_RP _ _ _ (13, [(0, .ref 64), (1, .int a1), (2, .ref 236)], [], (q_kX s (c + 1) (n + 6))) _ _
      refine q_RP_seg (g2 := (14, [(0, .ref 64), (1, .int a1), (2, .ref 236)], [.int 1], (q_kX s (c + 1) (n + 6)))) 1 (fun _ _ => rfl) ?_
      exact q_RP_ret rfl rfl rfl
def dz_X36_22 (m : Nat) : q_S → Int32 → Int32 → Int32 → Int32 → Int32 → Option (Int32) := Nat.rec (motive := fun _ => q_S → Int32 → Int32 → Int32 → Int32 → Int32 → Option (Int32)) (fun _ _ _ _ _ _ => none) (fun _ k22 s v1 v2 v3 v4 v5 =>
  cond (decide (v5 < v3)) ((dz_N90_65 (q_vw 32 1 73 s) ((v1 + v5) &&& 4095)).bind fun r1 => (dz_N90_65 (q_vw 32 1 73 s) ((v2 + v5) &&& 4095)).bind fun r2 => cond (decide (r1 = r2)) (k22 s v1 v2 v3 v4 (v5 + 1)) (k22 s v1 v2 v3 (v4 + 1) (v5 + 1))) (some v4)) m
theorem dzs_X36_22 (m : Nat) (s : q_S) (v1 : Int32) (v2 : Int32) (v3 : Int32) (v4 : Int32) (v5 : Int32) : dz_X36_22 (m + 1) s v1 v2 v3 v4 v5 = (fun k22 : q_S → Int32 → Int32 → Int32 → Int32 → Int32 → Option (Int32) =>
  cond (decide (v5 < v3)) ((dz_N90_65 (q_vw 32 1 73 s) ((v1 + v5) &&& 4095)).bind fun r1 => (dz_N90_65 (q_vw 32 1 73 s) ((v2 + v5) &&& 4095)).bind fun r2 => cond (decide (r1 = r2)) (k22 s v1 v2 v3 v4 (v5 + 1)) (k22 s v1 v2 v3 (v4 + 1) (v5 + 1))) (some v4)) (dz_X36_22 m) := rfl
set_option maxHeartbeats 4000000 in
theorem dzt_X36_22 (z L : Nat) (xs : Nat → Int32) (c n : Nat) (s : q_S) : ∀ (m : Nat) (v1 : Int32) (v2 : Int32) (v3 : Int32) (v4 : Int32) (v5 : Int32), q_RP (q_TBs z L xs) 2 36 (22, [(0, .ref 64), (1, .int v1), (2, .int v2), (3, .int v3), (4, .int v4), (5, .int v5)], [], (q_kX s c n)) (q_oP (q_kX s c n)) (dz_X36_22 m s v1 v2 v3 v4 v5) := by
  intro m
  induction m with
  | zero => intro v1 v2 v3 v4 v5; exact q_RP_no
  | succ m ih =>
    intro v1 v2 v3 v4 v5
    have hk22 := ih
    clear ih
    rw [dzs_X36_22]
    generalize dz_X36_22 m = k22 at hk22 ⊢
    dsimp only
    refine q_RP_seg (g2 := (25, [(0, .ref 64), (1, .int v1), (2, .int v2), (3, .int v3), (4, .int v4), (5, .int v5)], [.int v3, .int v5], (q_kX s c n))) 2 (fun _ _ => rfl) ?_
    cases h13 : decide (v5 < v3) with
    | true =>
      refine q_RP_cT ?_
      refine q_RP_rsF (g2 := (28, [(0, .ref 64), (1, .int v1), (2, .int v2), (3, .int v3), (4, .int v4), (5, .int v5)], [], (q_kX s c n))) rfl rfl (q_d_geT h13) ?_
      refine q_RP_seg (g2 := (43, [(0, .ref 64), (1, .int v1), (2, .int v2), (3, .int v3), (4, .int v4), (5, .int v5)], [.int ((v1 + v5) &&& 4095), .ref 66], (q_kX s c n))) 8 (fun _ _ => rfl) ?_
      refine q_RP_bd fun r1 er1 => ?_
      refine q_RP_call (v := (some (.int r1))) (h2 := (q_kX s c n)) rfl rfl ((q_emNX_1p rfl (fun _ => rfl) ((dzt_N90_65 (q_vw 32 1 73 s) c n ((v1 + v5) &&& 4095) r1 er1).tb q_TB0_le)).le (Nat.le_of_ble_eq_true rfl)) ?_
      show q_RP _ _ _ (46, [(0, .ref 64), (1, .int v1), (2, .int v2), (3, .int v3), (4, .int v4), (5, .int v5)], [.int r1], (q_kX s c n)) _ _
      refine q_RP_seg (g2 := (65, [(6, .int r1), (0, .ref 64), (1, .int v1), (2, .int v2), (3, .int v3), (4, .int v4), (5, .int v5)], [.int ((v2 + v5) &&& 4095), .ref 66, .int r1], (q_kX s c n))) 10 (fun _ _ => rfl) ?_
      refine q_RP_bd fun r2 er2 => ?_
      refine q_RP_call (v := (some (.int r2))) (h2 := (q_kX s c n)) rfl rfl ((q_emNX_1p rfl (fun _ => rfl) ((dzt_N90_65 (q_vw 32 1 73 s) c n ((v2 + v5) &&& 4095) r2 er2).tb q_TB0_le)).le (Nat.le_of_ble_eq_true rfl)) ?_
      show q_RP _ _ _ (68, [(6, .int r1), (0, .ref 64), (1, .int v1), (2, .int v2), (3, .int v3), (4, .int v4), (5, .int v5)], [.int r2, .int r1], (q_kX s c n)) _ _
      cases h14 : decide (r1 = r2) with
      | true =>
        refine q_RP_cT ?_
        refine q_RP_rsT (g2 := (74, [(6, .int r1), (0, .ref 64), (1, .int v1), (2, .int v2), (3, .int v3), (4, .int v4), (5, .int v5)], [], (q_kX s c n))) rfl rfl h14 ?_
        refine q_RP_seg (g2 := (22, [(5, .int (v5 + 1)), (6, .int r1), (0, .ref 64), (1, .int v1), (2, .int v2), (3, .int v3), (4, .int v4)], [], (q_kX s c n))) 2 (fun _ _ => rfl) ?_
        exact q_RP_xt (q_xt_mk (q_mn1 2 rfl (q_mn1 3 rfl (q_mn1 4 rfl (q_mn1 5 rfl (q_mn1 6 rfl (q_mn1 0 rfl q_mn0)))))) rfl) (hk22 v1 v2 v3 v4 (v5 + 1))
      | false =>
        refine q_RP_cF ?_
        refine q_RP_rsF (g2 := (71, [(6, .int r1), (0, .ref 64), (1, .int v1), (2, .int v2), (3, .int v3), (4, .int v4), (5, .int v5)], [], (q_kX s c n))) rfl rfl h14 ?_
        refine q_RP_seg (g2 := (22, [(5, .int (v5 + 1)), (4, .int (v4 + 1)), (6, .int r1), (0, .ref 64), (1, .int v1), (2, .int v2), (3, .int v3)], [], (q_kX s c n))) 3 (fun _ _ => rfl) ?_
        exact q_RP_xt (q_xt_mk (q_mn1 3 rfl (q_mn1 4 rfl (q_mn1 5 rfl (q_mn1 6 rfl (q_mn1 1 rfl (q_mn1 0 rfl q_mn0)))))) rfl) (hk22 v1 v2 v3 (v4 + 1) (v5 + 1))
    | false =>
      refine q_RP_cF ?_
      refine q_RP_rsT (g2 := (80, [(0, .ref 64), (1, .int v1), (2, .int v2), (3, .int v3), (4, .int v4), (5, .int v5)], [], (q_kX s c n))) rfl rfl (q_d_geF h13) ?_
      refine q_RP_seg (g2 := (82, [(0, .ref 64), (1, .int v1), (2, .int v2), (3, .int v3), (4, .int v4), (5, .int v5)], [.int v4], (q_kX s c n))) 1 (fun _ _ => rfl) ?_
      exact q_RP_ret rfl rfl rfl
