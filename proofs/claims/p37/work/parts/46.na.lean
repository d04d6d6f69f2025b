def dz_N91_65 (s : q_S) (a1 : Int32) (a2 : Int32) : Int32 :=
  cond (decide (a1 = 9)) (((((s.2.2 1 8) - (s.2.2 1 8) / 960 * 960).toInt32) / 24)) (cond (decide (a1 = 12)) ((((s.1 7) 0) &&& 255)) (cond (decide (a1 = 13)) ((((s.1 7) 0) >>> ((8 &&& 31) : Int32))) (cond (decide (a1 = 14)) ((((s.1 7) 1) &&& 255)) (cond (decide (a1 = 15)) ((((s.1 7) 1) >>> ((8 &&& 31) : Int32))) (cond (decide (a1 = 31)) ((((s.1 12) ((a2 &&& 15).toNatClampNeg)) + (16 * (s.2.1 10 2)))) (cond (decide (a1 = 44)) (cond (decide (s.2.1 8 2 < s.2.1 8 1)) (((a2 + (2 * (s.2.1 8 4))) + 4)) (((a2 + (2 * (s.2.1 8 4))) + 0))) (a2)))))))
set_option maxHeartbeats 4000000 in
theorem dzt_N91_65 (s : q_S) (c n : Nat) (a1 : Int32) (a2 : Int32) : q_Ca q_TB0 1 90 [.ref 65, .int a1, .int a2] (q_kN s c n) ((q_oP (q_kN s c n)) (dz_N91_65 s a1 a2)) := by
  refine q_CaT_of (φ := (q_oP (q_kN s c n))) (Nat.le_of_ble_eq_true rfl) ?_
  unfold dz_N91_65
  refine q_RT_seg (g2 := (1, [(0, .ref 65), (1, .int a1), (2, .int a2)], [.int a1], (q_kN s c n))) 1 (fun _ _ => rfl) ?_
  cases h1 : decide (a1 = 9) with
  | true =>
    refine q_RT_cT ?_
    refine q_RT_st1 (g2 := (68, [(0, .ref 65), (1, .int a1), (2, .int a2)], [], (q_kN s c n))) rfl (by rw [of_decide_eq_true h1]; rfl) ?_
    refine q_RT_seg (g2 := (72, [(0, .ref 65), (1, .int a1), (2, .int a2)], [.long (s.2.2 1 8)], (q_kN s c n))) 2 (fun _ _ => rfl) ?_
    refine q_RT_seg (g2 := (80, [(0, .ref 65), (1, .int a1), (2, .int a2)], [.int ((((s.2.2 1 8) - (s.2.2 1 8) / 960 * 960).toInt32) / 24)], (q_kN s c n))) 5 (fun _ _ => rfl) ?_
    exact q_RT_ret rfl rfl rfl
  | false =>
    refine q_RT_cF ?_
    cases h2 : decide (a1 = 12) with
    | true =>
      refine q_RT_cT ?_
      refine q_RT_st1 (g2 := (81, [(0, .ref 65), (1, .int a1), (2, .int a2)], [], (q_kN s c n))) rfl (by rw [of_decide_eq_true h2]; rfl) ?_
      refine q_RT_seg (g2 := (87, [(0, .ref 65), (1, .int a1), (2, .int a2)], [.int ((s.1 7) 0)], (q_kN s c n))) 4 (fun _ _ => rfl) ?_
      refine q_RT_seg (g2 := (91, [(0, .ref 65), (1, .int a1), (2, .int a2)], [.int (((s.1 7) 0) &&& 255)], (q_kN s c n))) 2 (fun _ _ => rfl) ?_
      exact q_RT_ret rfl rfl rfl
    | false =>
      refine q_RT_cF ?_
      cases h3 : decide (a1 = 13) with
      | true =>
        refine q_RT_cT ?_
        refine q_RT_st1 (g2 := (92, [(0, .ref 65), (1, .int a1), (2, .int a2)], [], (q_kN s c n))) rfl (by rw [of_decide_eq_true h3]; rfl) ?_
        refine q_RT_seg (g2 := (98, [(0, .ref 65), (1, .int a1), (2, .int a2)], [.int ((s.1 7) 0)], (q_kN s c n))) 4 (fun _ _ => rfl) ?_
        refine q_RT_seg (g2 := (101, [(0, .ref 65), (1, .int a1), (2, .int a2)], [.int (((s.1 7) 0) >>> ((8 &&& 31) : Int32))], (q_kN s c n))) 2 (fun _ _ => rfl) ?_
        exact q_RT_ret rfl rfl rfl
      | false =>
        refine q_RT_cF ?_
        cases h4 : decide (a1 = 14) with
        | true =>
          refine q_RT_cT ?_
          refine q_RT_st1 (g2 := (102, [(0, .ref 65), (1, .int a1), (2, .int a2)], [], (q_kN s c n))) rfl (by rw [of_decide_eq_true h4]; rfl) ?_
          refine q_RT_seg (g2 := (108, [(0, .ref 65), (1, .int a1), (2, .int a2)], [.int ((s.1 7) 1)], (q_kN s c n))) 4 (fun _ _ => rfl) ?_
          refine q_RT_seg (g2 := (112, [(0, .ref 65), (1, .int a1), (2, .int a2)], [.int (((s.1 7) 1) &&& 255)], (q_kN s c n))) 2 (fun _ _ => rfl) ?_
          exact q_RT_ret rfl rfl rfl
        | false =>
          refine q_RT_cF ?_
          cases h5 : decide (a1 = 15) with
          | true =>
            refine q_RT_cT ?_
            refine q_RT_st1 (g2 := (113, [(0, .ref 65), (1, .int a1), (2, .int a2)], [], (q_kN s c n))) rfl (by rw [of_decide_eq_true h5]; rfl) ?_
            refine q_RT_seg (g2 := (119, [(0, .ref 65), (1, .int a1), (2, .int a2)], [.int ((s.1 7) 1)], (q_kN s c n))) 4 (fun _ _ => rfl) ?_
            refine q_RT_seg (g2 := (122, [(0, .ref 65), (1, .int a1), (2, .int a2)], [.int (((s.1 7) 1) >>> ((8 &&& 31) : Int32))], (q_kN s c n))) 2 (fun _ _ => rfl) ?_
            exact q_RT_ret rfl rfl rfl
          | false =>
            refine q_RT_cF ?_
            cases h6 : decide (a1 = 31) with
            | true =>
              refine q_RT_cT ?_
              refine q_RT_st1 (g2 := (123, [(0, .ref 65), (1, .int a1), (2, .int a2)], [], (q_kN s c n))) rfl (by rw [of_decide_eq_true h6]; rfl) ?_
              refine q_RT_seg (g2 := (134, [(0, .ref 65), (1, .int a1), (2, .int a2)], [.int (a2 &&& 15), .ref 76], (q_kN s c n))) 6 (fun _ _ => rfl) ?_
              refine q_RT_rsT (g2 := (135, [(0, .ref 65), (1, .int a1), (2, .int a2)], [.int ((s.1 12) ((a2 &&& 15).toNatClampNeg))], (q_kN s c n))) rfl rfl (q_in_bd (x := a2 &&& 15) (n := 16) (U := 15) (L := 0) (q_and_lo a2 15) (q_and_hi a2 15 15)) ?_
              refine q_RT_seg (g2 := (144, [(0, .ref 65), (1, .int a1), (2, .int a2)], [.int (s.2.1 10 2), .int 16, .int ((s.1 12) ((a2 &&& 15).toNatClampNeg))], (q_kN s c n))) 4 (fun _ _ => rfl) ?_
              refine q_RT_seg (g2 := (146, [(0, .ref 65), (1, .int a1), (2, .int a2)], [.int (((s.1 12) ((a2 &&& 15).toNatClampNeg)) + (16 * (s.2.1 10 2)))], (q_kN s c n))) 2 (fun _ _ => rfl) ?_
              exact q_RT_ret rfl rfl rfl
            | false =>
              refine q_RT_cF ?_
              cases h7 : decide (a1 = 44) with
              | true =>
                refine q_RT_cT ?_
                refine q_RT_st1 (g2 := (147, [(0, .ref 65), (1, .int a1), (2, .int a2)], [], (q_kN s c n))) rfl (by rw [of_decide_eq_true h7]; rfl) ?_
                refine q_RT_seg (g2 := (156, [(0, .ref 65), (1, .int a1), (2, .int a2)], [.int (s.2.1 8 4), .int 2, .int a2], (q_kN s c n))) 5 (fun _ _ => rfl) ?_
                refine q_RT_seg (g2 := (165, [(0, .ref 65), (1, .int a1), (2, .int a2)], [.int (s.2.1 8 2), .int (a2 + (2 * (s.2.1 8 4)))], (q_kN s c n))) 5 (fun _ _ => rfl) ?_
                refine q_RT_seg (g2 := (172, [(0, .ref 65), (1, .int a1), (2, .int a2)], [.int (s.2.1 8 1), .int (s.2.1 8 2), .int (a2 + (2 * (s.2.1 8 4)))], (q_kN s c n))) 3 (fun _ _ => rfl) ?_
                cases h8 : decide (s.2.1 8 2 < s.2.1 8 1) with
                | true =>
                  refine q_RT_cT ?_
                  refine q_RT_rsF (g2 := (175, [(0, .ref 65), (1, .int a1), (2, .int a2)], [.int (a2 + (2 * (s.2.1 8 4)))], (q_kN s c n))) rfl rfl (q_d_geT h8) ?_
                  refine q_RT_seg (g2 := (181, [(0, .ref 65), (1, .int a1), (2, .int a2)], [.int ((a2 + (2 * (s.2.1 8 4))) + 4)], (q_kN s c n))) 3 (fun _ _ => rfl) ?_
                  exact q_RT_ret rfl rfl rfl
                | false =>
                  refine q_RT_cF ?_
                  refine q_RT_rsT (g2 := (179, [(0, .ref 65), (1, .int a1), (2, .int a2)], [.int (a2 + (2 * (s.2.1 8 4)))], (q_kN s c n))) rfl rfl (q_d_geF h8) ?_
                  refine q_RT_seg (g2 := (181, [(0, .ref 65), (1, .int a1), (2, .int a2)], [.int ((a2 + (2 * (s.2.1 8 4))) + 0)], (q_kN s c n))) 2 (fun _ _ => rfl) ?_
                  exact q_RT_ret rfl rfl rfl
              | false =>
                refine q_RT_cF ?_
                refine q_RT_st1 (g2 := (182, [(0, .ref 65), (1, .int a1), (2, .int a2)], [], (q_kN s c n))) rfl (by unfold q_lsw; dsimp only; rw [Op.lookupswitch.offset_cons, if_neg (q_neJ h1 (n := 9)), Op.lookupswitch.offset_cons, if_neg (q_neJ h2 (n := 12)), Op.lookupswitch.offset_cons, if_neg (q_neJ h3 (n := 13)), Op.lookupswitch.offset_cons, if_neg (q_neJ h4 (n := 14)), Op.lookupswitch.offset_cons, if_neg (q_neJ h5 (n := 15)), Op.lookupswitch.offset_cons, if_neg (q_neJ h6 (n := 31)), Op.lookupswitch.offset_cons, if_neg (q_neJ h7 (n := 44))]; rfl) ?_
                refine q_RT_seg (g2 := (183, [(0, .ref 65), (1, .int a1), (2, .int a2)], [.int a2], (q_kN s c n))) 1 (fun _ _ => rfl) ?_
                exact q_RT_ret rfl rfl rfl
def dz_N90_65_73 (s : q_S) (v1 : Int32) (v3 : Int32) : Option (Int32) :=
  cond (decide (v3 &&& 2 = 2)) (cond (decide (v1 < 2048)) (some ((s.1 3) ((v1 &&& 4095).toNatClampNeg))) (cond (decide (v1 < 2560)) (cond (q_in (((512 * ((v3 >>> ((2 &&& 31) : Int32)) &&& 3)) + v1) - 2048) 2048) (some ((s.1 6) ((((512 * ((v3 >>> ((2 &&& 31) : Int32)) &&& 3)) + v1) - 2048).toNatClampNeg))) none) (some ((s.1 3) ((v1 &&& 4095).toNatClampNeg))))) (some ((s.1 3) ((v1 &&& 4095).toNatClampNeg)))
set_option maxHeartbeats 4000000 in
theorem dzt_N90_65_73 (c n : Nat) (s : q_S) (v1 : Int32) (v3 : Int32) : q_RP q_TB0 1 89 (73, [(0, .ref 65), (1, .int v1), (3, .int v3)], [], (q_kN s c n)) (q_oP (q_kN s c n)) (dz_N90_65_73 s v1 v3) := by
  unfold dz_N90_65_73
  refine q_RP_seg (g2 := (77, [(0, .ref 65), (1, .int v1), (3, .int v3)], [.int 2, .int (v3 &&& 2)], (q_kN s c n))) 4 (fun _ _ => rfl) ?_
  cases h10 : decide (v3 &&& 2 = 2) with
  | true =>
    refine q_RP_cT ?_
    refine q_RP_rsF (g2 := (80, [(0, .ref 65), (1, .int v1), (3, .int v3)], [], (q_kN s c n))) rfl rfl (q_d_neT h10) ?_
    refine q_RP_seg (g2 := (84, [(0, .ref 65), (1, .int v1), (3, .int v3)], [.int 2048, .int v1], (q_kN s c n))) 2 (fun _ _ => rfl) ?_
    cases h11 : decide (v1 < 2048) with
    | true =>
      refine q_RP_cT ?_
      refine q_RP_rsT (g2 := (115, [(0, .ref 65), (1, .int v1), (3, .int v3)], [], (q_kN s c n))) rfl rfl h11 ?_
      refine q_RP_seg (g2 := (127, [(0, .ref 65), (1, .int v1), (3, .int v3)], [.int (v1 &&& 4095), .ref 67], (q_kN s c n))) 6 (fun _ _ => rfl) ?_
      refine q_RP_rsT (g2 := (128, [(0, .ref 65), (1, .int v1), (3, .int v3)], [.int ((s.1 3) ((v1 &&& 4095).toNatClampNeg))], (q_kN s c n))) rfl rfl (q_in_bd (x := v1 &&& 4095) (n := 4096) (U := 4095) (L := 0) (q_and_lo v1 4095) (q_and_hi v1 4095 4095)) ?_
      exact q_RP_ret rfl rfl rfl
    | false =>
      refine q_RP_cF ?_
      refine q_RP_rsF (g2 := (87, [(0, .ref 65), (1, .int v1), (3, .int v3)], [], (q_kN s c n))) rfl rfl h11 ?_
      refine q_RP_seg (g2 := (91, [(0, .ref 65), (1, .int v1), (3, .int v3)], [.int 2560, .int v1], (q_kN s c n))) 2 (fun _ _ => rfl) ?_
      cases h12 : decide (v1 < 2560) with
      | true =>
        refine q_RP_cT ?_
        refine q_RP_rsF (g2 := (94, [(0, .ref 65), (1, .int v1), (3, .int v3)], [], (q_kN s c n))) rfl rfl (q_d_geT h12) ?_
        refine q_RP_seg (g2 := (113, [(0, .ref 65), (1, .int v1), (3, .int v3)], [.int (((512 * ((v3 >>> ((2 &&& 31) : Int32)) &&& 3)) + v1) - 2048), .ref 70], (q_kN s c n))) 13 (fun _ _ => rfl) ?_
        refine q_RP_as fun i13 => ?_
        refine q_RP_rsT (g2 := (114, [(0, .ref 65), (1, .int v1), (3, .int v3)], [.int ((s.1 6) ((((512 * ((v3 >>> ((2 &&& 31) : Int32)) &&& 3)) + v1) - 2048).toNatClampNeg))], (q_kN s c n))) rfl rfl i13 ?_
        exact q_RP_ret rfl rfl rfl
      | false =>
        refine q_RP_cF ?_
        refine q_RP_rsT (g2 := (115, [(0, .ref 65), (1, .int v1), (3, .int v3)], [], (q_kN s c n))) rfl rfl (q_d_geF h12) ?_
        refine q_RP_seg (g2 := (127, [(0, .ref 65), (1, .int v1), (3, .int v3)], [.int (v1 &&& 4095), .ref 67], (q_kN s c n))) 6 (fun _ _ => rfl) ?_
        refine q_RP_rsT (g2 := (128, [(0, .ref 65), (1, .int v1), (3, .int v3)], [.int ((s.1 3) ((v1 &&& 4095).toNatClampNeg))], (q_kN s c n))) rfl rfl (q_in_bd (x := v1 &&& 4095) (n := 4096) (U := 4095) (L := 0) (q_and_lo v1 4095) (q_and_hi v1 4095 4095)) ?_
        exact q_RP_ret rfl rfl rfl
  | false =>
    refine q_RP_cF ?_
    refine q_RP_rsT (g2 := (115, [(0, .ref 65), (1, .int v1), (3, .int v3)], [], (q_kN s c n))) rfl rfl (q_d_neF h10) ?_
    refine q_RP_seg (g2 := (127, [(0, .ref 65), (1, .int v1), (3, .int v3)], [.int (v1 &&& 4095), .ref 67], (q_kN s c n))) 6 (fun _ _ => rfl) ?_
    refine q_RP_rsT (g2 := (128, [(0, .ref 65), (1, .int v1), (3, .int v3)], [.int ((s.1 3) ((v1 &&& 4095).toNatClampNeg))], (q_kN s c n))) rfl rfl (q_in_bd (x := v1 &&& 4095) (n := 4096) (U := 4095) (L := 0) (q_and_lo v1 4095) (q_and_hi v1 4095 4095)) ?_
    exact q_RP_ret rfl rfl rfl
def dz_N90_65_31 (s : q_S) (v1 : Int32) : Option (Int32) :=
  cond (decide (((s.1 4) 0) &&& 1 = 1)) (cond (decide (v1 < 3072)) (dz_N90_65_73 s v1 ((s.1 4) 0)) (cond (decide (v1 < 3584)) (some ((s.1 5) ((v1 - 3072).toNatClampNeg))) (dz_N90_65_73 s v1 ((s.1 4) 0)))) (dz_N90_65_73 s v1 ((s.1 4) 0))
set_option maxHeartbeats 4000000 in
theorem dzt_N90_65_31 (c n : Nat) (s : q_S) (v1 : Int32) : q_RP q_TB0 1 89 (31, [(0, .ref 65), (1, .int v1)], [], (q_kN s c n)) (q_oP (q_kN s c n)) (dz_N90_65_31 s v1) := by
  unfold dz_N90_65_31
  refine q_RP_seg (g2 := (40, [(0, .ref 65), (1, .int v1)], [.int ((s.1 4) 0)], (q_kN s c n))) 5 (fun _ _ => rfl) ?_
  refine q_RP_seg (g2 := (45, [(3, .int ((s.1 4) 0)), (0, .ref 65), (1, .int v1)], [.int 1, .int (((s.1 4) 0) &&& 1)], (q_kN s c n))) 5 (fun _ _ => rfl) ?_
  cases h8 : decide (((s.1 4) 0) &&& 1 = 1) with
  | true =>
    refine q_RP_cT ?_
    refine q_RP_rsF (g2 := (48, [(3, .int ((s.1 4) 0)), (0, .ref 65), (1, .int v1)], [], (q_kN s c n))) rfl rfl (q_d_neT h8) ?_
    refine q_RP_seg (g2 := (52, [(3, .int ((s.1 4) 0)), (0, .ref 65), (1, .int v1)], [.int 3072, .int v1], (q_kN s c n))) 2 (fun _ _ => rfl) ?_
    cases h9 : decide (v1 < 3072) with
    | true =>
      refine q_RP_cT ?_
      refine q_RP_rsT (g2 := (73, [(3, .int ((s.1 4) 0)), (0, .ref 65), (1, .int v1)], [], (q_kN s c n))) rfl rfl h9 ?_
      exact q_RP_xt (q_xt_mk (q_mn1 1 rfl (q_mn1 2 rfl (q_mn1 0 rfl q_mn0))) rfl) (dzt_N90_65_73 c n s v1 ((s.1 4) 0))
    | false =>
      refine q_RP_cF ?_
      refine q_RP_rsF (g2 := (55, [(3, .int ((s.1 4) 0)), (0, .ref 65), (1, .int v1)], [], (q_kN s c n))) rfl rfl h9 ?_
      refine q_RP_seg (g2 := (59, [(3, .int ((s.1 4) 0)), (0, .ref 65), (1, .int v1)], [.int 3584, .int v1], (q_kN s c n))) 2 (fun _ _ => rfl) ?_
      cases h14 : decide (v1 < 3584) with
      | true =>
        refine q_RP_cT ?_
        refine q_RP_rsF (g2 := (62, [(3, .int ((s.1 4) 0)), (0, .ref 65), (1, .int v1)], [], (q_kN s c n))) rfl rfl (q_d_geT h14) ?_
        refine q_RP_seg (g2 := (71, [(3, .int ((s.1 4) 0)), (0, .ref 65), (1, .int v1)], [.int (v1 - 3072), .ref 69], (q_kN s c n))) 5 (fun _ _ => rfl) ?_
        refine q_RP_rsT (g2 := (72, [(3, .int ((s.1 4) 0)), (0, .ref 65), (1, .int v1)], [.int ((s.1 5) ((v1 - 3072).toNatClampNeg))], (q_kN s c n))) rfl rfl (q_in_bd (x := v1 - 3072) (n := 512) (U := 511) (L := 0) (q_sub_lo9 0 (q_lo1 h9) (q_hi1 h14)) (q_sub_hi9 511 (q_lo1 h9) (q_hi1 h14))) ?_
        exact q_RP_ret rfl rfl rfl
      | false =>
        refine q_RP_cF ?_
        refine q_RP_rsT (g2 := (73, [(3, .int ((s.1 4) 0)), (0, .ref 65), (1, .int v1)], [], (q_kN s c n))) rfl rfl (q_d_geF h14) ?_
        exact q_RP_xt (q_xt_mk (q_mn1 1 rfl (q_mn1 2 rfl (q_mn1 0 rfl q_mn0))) rfl) (dzt_N90_65_73 c n s v1 ((s.1 4) 0))
  | false =>
    refine q_RP_cF ?_
    refine q_RP_rsT (g2 := (73, [(3, .int ((s.1 4) 0)), (0, .ref 65), (1, .int v1)], [], (q_kN s c n))) rfl rfl (q_d_neF h8) ?_
    exact q_RP_xt (q_xt_mk (q_mn1 1 rfl (q_mn1 2 rfl (q_mn1 0 rfl q_mn0))) rfl) (dzt_N90_65_73 c n s v1 ((s.1 4) 0))
def dz_N90_65 (s : q_S) (a1 : Int32) : Option (Int32) :=
  cond (decide (a1 - 3840 < 0)) (dz_N90_65_31 s a1) (cond (decide (a1 - 3840 < 48)) (q_let (dz_N91_65 s (a1 - 3840) ((s.1 4) ((a1 - 3840).toNatClampNeg))) fun r1 => some r1) (dz_N90_65_31 s a1))
set_option maxHeartbeats 4000000 in
theorem dzt_N90_65 (s : q_S) (c n : Nat) (a1 : Int32) (x : Int32) (h : dz_N90_65 s a1 = some x) : q_Ca q_TB0 2 89 [.ref 65, .int a1] (q_kN s c n) ((q_oP (q_kN s c n)) x) := by
  refine q_CaP_of (φ := (q_oP (q_kN s c n))) (Nat.le_of_ble_eq_true rfl) ?_ h
  clear h
  unfold dz_N90_65
  refine q_RP_seg (g2 := (7, [(2, .int (a1 - 3840)), (0, .ref 65), (1, .int a1)], [.int (a1 - 3840)], (q_kN s c n))) 5 (fun _ _ => rfl) ?_
  cases h7 : decide (a1 - 3840 < 0) with
  | true =>
    refine q_RP_cT ?_
    refine q_RP_rsT (g2 := (31, [(2, .int (a1 - 3840)), (0, .ref 65), (1, .int a1)], [], (q_kN s c n))) rfl rfl h7 ?_
    exact q_RP_xt (q_xt_mk (q_mn1 1 rfl (q_mn1 2 rfl q_mn0)) rfl) (dzt_N90_65_31 c n s a1)
  | false =>
    refine q_RP_cF ?_
    refine q_RP_rsF (g2 := (10, [(2, .int (a1 - 3840)), (0, .ref 65), (1, .int a1)], [], (q_kN s c n))) rfl rfl h7 ?_
    refine q_RP_seg (g2 := (13, [(2, .int (a1 - 3840)), (0, .ref 65), (1, .int a1)], [.int 48, .int (a1 - 3840)], (q_kN s c n))) 2 (fun _ _ => rfl) ?_
    cases h15 : decide (a1 - 3840 < 48) with
    | true =>
      refine q_RP_cT ?_
      refine q_RP_rsF (g2 := (16, [(2, .int (a1 - 3840)), (0, .ref 65), (1, .int a1)], [], (q_kN s c n))) rfl rfl (q_d_geT h15) ?_
      refine q_RP_seg (g2 := (26, [(2, .int (a1 - 3840)), (0, .ref 65), (1, .int a1)], [.int (a1 - 3840), .ref 68, .int (a1 - 3840), .ref 65], (q_kN s c n))) 6 (fun _ _ => rfl) ?_
      refine q_RP_rsT (g2 := (27, [(2, .int (a1 - 3840)), (0, .ref 65), (1, .int a1)], [.int ((s.1 4) ((a1 - 3840).toNatClampNeg)), .int (a1 - 3840), .ref 65], (q_kN s c n))) rfl rfl (q_in_bd (x := a1 - 3840) (n := 48) (U := 47) (L := 0) (q_lo1 h7) (q_hi1 h15)) ?_
      refine q_RP_call (v := (some (.int (dz_N91_65 s (a1 - 3840) ((s.1 4) ((a1 - 3840).toNatClampNeg)))))) (h2 := (q_kN s c n)) rfl rfl ((dzt_N91_65 s c n (a1 - 3840) ((s.1 4) ((a1 - 3840).toNatClampNeg))).le (Nat.le_of_ble_eq_true rfl)) ?_
      generalize dz_N91_65 s (a1 - 3840) ((s.1 4) ((a1 - 3840).toNatClampNeg)) = r1
      refine q_RP_let ?_
      show q_RP _ _ _ (30, [(2, .int (a1 - 3840)), (0, .ref 65), (1, .int a1)], [.int r1], (q_kN s c n)) _ _
      exact q_RP_ret rfl rfl rfl
    | false =>
      refine q_RP_cF ?_
      refine q_RP_rsT (g2 := (31, [(2, .int (a1 - 3840)), (0, .ref 65), (1, .int a1)], [], (q_kN s c n))) rfl rfl (q_d_geF h15) ?_
      exact q_RP_xt (q_xt_mk (q_mn1 1 rfl (q_mn1 2 rfl q_mn0)) rfl) (dzt_N90_65_31 c n s a1)
def dz_N112_66 (s : q_S) (a1 : Int32) (a2 : Int32) : q_S :=
  cond (decide (a1 - 3840 < 0)) ((q_sA s 3 (upd (s.1 3) ((a1 &&& 4095).toNatClampNeg) (a2 &&& 255)))) (cond (decide (a1 - 3840 < 48)) (cond (decide ((fun j => q_o1.getD j 0) ((a1 - 3840).toNatClampNeg) = 0)) (s) ((q_sA s 4 (upd (s.1 4) ((a1 - 3840).toNatClampNeg) (a2 &&& ((fun j => q_o1.getD j 0) ((a1 - 3840).toNatClampNeg))))))) ((q_sA s 3 (upd (s.1 3) ((a1 &&& 4095).toNatClampNeg) (a2 &&& 255)))))
set_option maxHeartbeats 4000000 in
theorem dzt_N112_66 (s : q_S) (c n : Nat) (a1 : Int32) (a2 : Int32) : q_Ca q_TB0 1 111 [.ref 66, .int a1, .int a2] (q_kN s c n) ((q_oSN c n) (dz_N112_66 s a1 a2)) := by
  refine q_CaT_of (φ := (q_oSN c n)) (Nat.le_of_ble_eq_true rfl) ?_
  unfold dz_N112_66
  refine q_RT_seg (g2 := (7, [(3, .int (a1 - 3840)), (0, .ref 66), (1, .int a1), (2, .int a2)], [.int (a1 - 3840)], (q_kN s c n))) 5 (fun _ _ => rfl) ?_
  cases h1 : decide (a1 - 3840 < 0) with
  | true =>
    refine q_RT_cT ?_
    refine q_RT_rsT (g2 := (16, [(3, .int (a1 - 3840)), (0, .ref 66), (1, .int a1), (2, .int a2)], [], (q_kN s c n))) rfl rfl h1 ?_
    refine q_RT_seg (g2 := (30, [(3, .int (a1 - 3840)), (0, .ref 66), (1, .int a1), (2, .int a2)], [.int (a2 &&& 255), .int (a1 &&& 4095), .ref 67], (q_kN s c n))) 8 (fun _ _ => rfl) ?_
    refine q_RT_rsT (g2 := (31, [(3, .int (a1 - 3840)), (0, .ref 66), (1, .int a1), (2, .int a2)], [], (q_kN (q_sA s 3 (upd (s.1 3) ((a1 &&& 4095).toNatClampNeg) (a2 &&& 255))) c n))) rfl rfl (q_in_bd (x := a1 &&& 4095) (n := 4096) (U := 4095) (L := 0) (q_and_lo a1 4095) (q_and_hi a1 4095 4095)) ?_
    refine q_RT_seg (g2 := (55, [(3, .int (a1 - 3840)), (0, .ref 66), (1, .int a1), (2, .int a2)], [], (q_kN (q_sA s 3 (upd (s.1 3) ((a1 &&& 4095).toNatClampNeg) (a2 &&& 255))) c n))) 1 (fun _ _ => rfl) ?_
    exact q_RT_ret rfl rfl rfl
  | false =>
    refine q_RT_cF ?_
    refine q_RT_rsF (g2 := (10, [(3, .int (a1 - 3840)), (0, .ref 66), (1, .int a1), (2, .int a2)], [], (q_kN s c n))) rfl rfl h1 ?_
    refine q_RT_seg (g2 := (13, [(3, .int (a1 - 3840)), (0, .ref 66), (1, .int a1), (2, .int a2)], [.int 48, .int (a1 - 3840)], (q_kN s c n))) 2 (fun _ _ => rfl) ?_
    cases h2 : decide (a1 - 3840 < 48) with
    | true =>
      refine q_RT_cT ?_
      refine q_RT_rsT (g2 := (34, [(3, .int (a1 - 3840)), (0, .ref 66), (1, .int a1), (2, .int a2)], [], (q_kN s c n))) rfl rfl h2 ?_
      refine q_RT_seg (g2 := (38, [(3, .int (a1 - 3840)), (0, .ref 66), (1, .int a1), (2, .int a2)], [.int (a1 - 3840), .ref 1], (q_kN s c n))) 2 (fun _ _ => rfl) ?_
      refine q_RT_rsT (g2 := (39, [(3, .int (a1 - 3840)), (0, .ref 66), (1, .int a1), (2, .int a2)], [.int ((fun j => q_o1.getD j 0) ((a1 - 3840).toNatClampNeg))], (q_kN s c n))) rfl rfl (q_in_bd (x := a1 - 3840) (n := 48) (U := 47) (L := 0) (q_lo1 h1) (q_hi1 h2)) ?_
      cases h3 : decide ((fun j => q_o1.getD j 0) ((a1 - 3840).toNatClampNeg) = 0) with
      | true =>
        refine q_RT_cT ?_
        refine q_RT_rsT (g2 := (55, [(3, .int (a1 - 3840)), (0, .ref 66), (1, .int a1), (2, .int a2)], [], (q_kN s c n))) rfl rfl h3 ?_
        exact q_RT_ret rfl rfl rfl
      | false =>
        refine q_RT_cF ?_
        refine q_RT_rsF (g2 := (42, [(3, .int (a1 - 3840)), (0, .ref 66), (1, .int a1), (2, .int a2)], [], (q_kN s c n))) rfl rfl h3 ?_
        refine q_RT_seg (g2 := (52, [(3, .int (a1 - 3840)), (0, .ref 66), (1, .int a1), (2, .int a2)], [.int (a1 - 3840), .ref 1, .int a2, .int (a1 - 3840), .ref 68], (q_kN s c n))) 6 (fun _ _ => rfl) ?_
        refine q_RT_rsT (g2 := (53, [(3, .int (a1 - 3840)), (0, .ref 66), (1, .int a1), (2, .int a2)], [.int ((fun j => q_o1.getD j 0) ((a1 - 3840).toNatClampNeg)), .int a2, .int (a1 - 3840), .ref 68], (q_kN s c n))) rfl rfl (q_in_bd (x := a1 - 3840) (n := 48) (U := 47) (L := 0) (q_lo1 h1) (q_hi1 h2)) ?_
        refine q_RT_seg (g2 := (54, [(3, .int (a1 - 3840)), (0, .ref 66), (1, .int a1), (2, .int a2)], [.int (a2 &&& ((fun j => q_o1.getD j 0) ((a1 - 3840).toNatClampNeg))), .int (a1 - 3840), .ref 68], (q_kN s c n))) 1 (fun _ _ => rfl) ?_
        refine q_RT_rsT (g2 := (55, [(3, .int (a1 - 3840)), (0, .ref 66), (1, .int a1), (2, .int a2)], [], (q_kN (q_sA s 4 (upd (s.1 4) ((a1 - 3840).toNatClampNeg) (a2 &&& ((fun j => q_o1.getD j 0) ((a1 - 3840).toNatClampNeg))))) c n))) rfl rfl (q_in_bd (x := a1 - 3840) (n := 48) (U := 47) (L := 0) (q_lo1 h1) (q_hi1 h2)) ?_
        exact q_RT_ret rfl rfl rfl
    | false =>
      refine q_RT_cF ?_
      refine q_RT_rsF (g2 := (16, [(3, .int (a1 - 3840)), (0, .ref 66), (1, .int a1), (2, .int a2)], [], (q_kN s c n))) rfl rfl h2 ?_
      refine q_RT_seg (g2 := (30, [(3, .int (a1 - 3840)), (0, .ref 66), (1, .int a1), (2, .int a2)], [.int (a2 &&& 255), .int (a1 &&& 4095), .ref 67], (q_kN s c n))) 8 (fun _ _ => rfl) ?_
      refine q_RT_rsT (g2 := (31, [(3, .int (a1 - 3840)), (0, .ref 66), (1, .int a1), (2, .int a2)], [], (q_kN (q_sA s 3 (upd (s.1 3) ((a1 &&& 4095).toNatClampNeg) (a2 &&& 255))) c n))) rfl rfl (q_in_bd (x := a1 &&& 4095) (n := 4096) (U := 4095) (L := 0) (q_and_lo a1 4095) (q_and_hi a1 4095 4095)) ?_
      refine q_RT_seg (g2 := (55, [(3, .int (a1 - 3840)), (0, .ref 66), (1, .int a1), (2, .int a2)], [], (q_kN (q_sA s 3 (upd (s.1 3) ((a1 &&& 4095).toNatClampNeg) (a2 &&& 255))) c n))) 1 (fun _ _ => rfl) ?_
      exact q_RT_ret rfl rfl rfl
def dz_N128_77 (s : q_S) (a1 : Int32) (a2 : Int32) : q_S :=
  cond (decide (s.2.1 13 2 < 0)) (s) (cond (decide (s.2.1 13 2 < 3072)) ((q_sI (q_sA s 17 (upd (s.1 17) ((s.2.1 13 2).toNatClampNeg) ((((s.2.1 13 3) <<< (21 &&& 31)) + (a1 <<< (8 &&& 31))) + a2))) 13 2 ((s.2.1 13 2) + 1))) (s))
set_option maxHeartbeats 4000000 in
theorem dzt_N128_77 (s : q_S) (c n : Nat) (a1 : Int32) (a2 : Int32) : q_Ca q_TB0 1 127 [.ref 77, .int a1, .int a2] (q_kN s c n) ((q_oSN c n) (dz_N128_77 s a1 a2)) := by
  refine q_CaT_of (φ := (q_oSN c n)) (Nat.le_of_ble_eq_true rfl) ?_
  unfold dz_N128_77
  refine q_RT_seg (g2 := (4, [(0, .ref 77), (1, .int a1), (2, .int a2)], [.int (s.2.1 13 2)], (q_kN s c n))) 2 (fun _ _ => rfl) ?_
  cases h1 : decide (s.2.1 13 2 < 0) with
  | true =>
    refine q_RT_cT ?_
    refine q_RT_rsT (g2 := (50, [(0, .ref 77), (1, .int a1), (2, .int a2)], [], (q_kN s c n))) rfl rfl h1 ?_
    exact q_RT_ret rfl rfl rfl
  | false =>
    refine q_RT_cF ?_
    refine q_RT_rsF (g2 := (7, [(0, .ref 77), (1, .int a1), (2, .int a2)], [], (q_kN s c n))) rfl rfl h1 ?_
    refine q_RT_seg (g2 := (11, [(0, .ref 77), (1, .int a1), (2, .int a2)], [.int (s.2.1 13 2)], (q_kN s c n))) 2 (fun _ _ => rfl) ?_
    refine q_RT_seg (g2 := (14, [(0, .ref 77), (1, .int a1), (2, .int a2)], [.int 3072, .int (s.2.1 13 2)], (q_kN s c n))) 1 (fun _ _ => rfl) ?_
    cases h2 : decide (s.2.1 13 2 < 3072) with
    | true =>
      refine q_RT_cT ?_
      refine q_RT_rsF (g2 := (17, [(0, .ref 77), (1, .int a1), (2, .int a2)], [], (q_kN s c n))) rfl rfl (q_d_geT h2) ?_
      refine q_RT_seg (g2 := (25, [(0, .ref 77), (1, .int a1), (2, .int a2)], [.int (s.2.1 13 2), .ref 81], (q_kN s c n))) 4 (fun _ _ => rfl) ?_
      refine q_RT_seg (g2 := (29, [(0, .ref 77), (1, .int a1), (2, .int a2)], [.int (s.2.1 13 3), .int (s.2.1 13 2), .ref 81], (q_kN s c n))) 2 (fun _ _ => rfl) ?_
      refine q_RT_seg (g2 := (39, [(0, .ref 77), (1, .int a1), (2, .int a2)], [.int ((((s.2.1 13 3) <<< (21 &&& 31)) + (a1 <<< (8 &&& 31))) + a2), .int (s.2.1 13 2), .ref 81], (q_kN s c n))) 8 (fun _ _ => rfl) ?_
      refine q_RT_rsT (g2 := (40, [(0, .ref 77), (1, .int a1), (2, .int a2)], [], (q_kN (q_sA s 17 (upd (s.1 17) ((s.2.1 13 2).toNatClampNeg) ((((s.2.1 13 3) <<< (21 &&& 31)) + (a1 <<< (8 &&& 31))) + a2))) c n))) rfl rfl (q_in_bd (x := s.2.1 13 2) (n := 3072) (U := 3071) (L := 0) (q_lo1 h1) (q_hi1 h2)) ?_
      refine q_RT_seg (g2 := (45, [(0, .ref 77), (1, .int a1), (2, .int a2)], [.int (s.2.1 13 2), .ref 77], (q_kN (q_sA s 17 (upd (s.1 17) ((s.2.1 13 2).toNatClampNeg) ((((s.2.1 13 3) <<< (21 &&& 31)) + (a1 <<< (8 &&& 31))) + a2))) c n))) 3 (fun _ _ => rfl) ?_
      refine q_RT_seg (g2 := (50, [(0, .ref 77), (1, .int a1), (2, .int a2)], [], (q_kN (q_sI (q_sA s 17 (upd (s.1 17) ((s.2.1 13 2).toNatClampNeg) ((((s.2.1 13 3) <<< (21 &&& 31)) + (a1 <<< (8 &&& 31))) + a2))) 13 2 ((s.2.1 13 2) + 1)) c n))) 3 (fun _ _ => rfl) ?_
      exact q_RT_ret rfl rfl rfl
    | false =>
      refine q_RT_cF ?_
      refine q_RT_rsT (g2 := (50, [(0, .ref 77), (1, .int a1), (2, .int a2)], [], (q_kN s c n))) rfl rfl (q_d_geF h2) ?_
      exact q_RT_ret rfl rfl rfl
def dz_N128_82 (s : q_S) (a1 : Int32) (a2 : Int32) : q_S :=
  cond (decide (s.2.1 18 2 < 0)) (s) (cond (decide (s.2.1 18 2 < 3072)) ((q_sI (q_sA s 22 (upd (s.1 22) ((s.2.1 18 2).toNatClampNeg) ((((s.2.1 18 3) <<< (21 &&& 31)) + (a1 <<< (8 &&& 31))) + a2))) 18 2 ((s.2.1 18 2) + 1))) (s))
set_option maxHeartbeats 4000000 in
theorem dzt_N128_82 (s : q_S) (c n : Nat) (a1 : Int32) (a2 : Int32) : q_Ca q_TB0 1 127 [.ref 82, .int a1, .int a2] (q_kN s c n) ((q_oSN c n) (dz_N128_82 s a1 a2)) := by
  refine q_CaT_of (φ := (q_oSN c n)) (Nat.le_of_ble_eq_true rfl) ?_
  unfold dz_N128_82
  refine q_RT_seg (g2 := (4, [(0, .ref 82), (1, .int a1), (2, .int a2)], [.int (s.2.1 18 2)], (q_kN s c n))) 2 (fun _ _ => rfl) ?_
  cases h1 : decide (s.2.1 18 2 < 0) with
  | true =>
    refine q_RT_cT ?_
    refine q_RT_rsT (g2 := (50, [(0, .ref 82), (1, .int a1), (2, .int a2)], [], (q_kN s c n))) rfl rfl h1 ?_
    exact q_RT_ret rfl rfl rfl
  | false =>
    refine q_RT_cF ?_
    refine q_RT_rsF (g2 := (7, [(0, .ref 82), (1, .int a1), (2, .int a2)], [], (q_kN s c n))) rfl rfl h1 ?_
    refine q_RT_seg (g2 := (11, [(0, .ref 82), (1, .int a1), (2, .int a2)], [.int (s.2.1 18 2)], (q_kN s c n))) 2 (fun _ _ => rfl) ?_
    refine q_RT_seg (g2 := (14, [(0, .ref 82), (1, .int a1), (2, .int a2)], [.int 3072, .int (s.2.1 18 2)], (q_kN s c n))) 1 (fun _ _ => rfl) ?_
    cases h2 : decide (s.2.1 18 2 < 3072) with
    | true =>
      refine q_RT_cT ?_
      refine q_RT_rsF (g2 := (17, [(0, .ref 82), (1, .int a1), (2, .int a2)], [], (q_kN s c n))) rfl rfl (q_d_geT h2) ?_
      refine q_RT_seg (g2 := (25, [(0, .ref 82), (1, .int a1), (2, .int a2)], [.int (s.2.1 18 2), .ref 86], (q_kN s c n))) 4 (fun _ _ => rfl) ?_
      refine q_RT_seg (g2 := (29, [(0, .ref 82), (1, .int a1), (2, .int a2)], [.int (s.2.1 18 3), .int (s.2.1 18 2), .ref 86], (q_kN s c n))) 2 (fun _ _ => rfl) ?_
      refine q_RT_seg (g2 := (39, [(0, .ref 82), (1, .int a1), (2, .int a2)], [.int ((((s.2.1 18 3) <<< (21 &&& 31)) + (a1 <<< (8 &&& 31))) + a2), .int (s.2.1 18 2), .ref 86], (q_kN s c n))) 8 (fun _ _ => rfl) ?_
      refine q_RT_rsT (g2 := (40, [(0, .ref 82), (1, .int a1), (2, .int a2)], [], (q_kN (q_sA s 22 (upd (s.1 22) ((s.2.1 18 2).toNatClampNeg) ((((s.2.1 18 3) <<< (21 &&& 31)) + (a1 <<< (8 &&& 31))) + a2))) c n))) rfl rfl (q_in_bd (x := s.2.1 18 2) (n := 3072) (U := 3071) (L := 0) (q_lo1 h1) (q_hi1 h2)) ?_
      refine q_RT_seg (g2 := (45, [(0, .ref 82), (1, .int a1), (2, .int a2)], [.int (s.2.1 18 2), .ref 82], (q_kN (q_sA s 22 (upd (s.1 22) ((s.2.1 18 2).toNatClampNeg) ((((s.2.1 18 3) <<< (21 &&& 31)) + (a1 <<< (8 &&& 31))) + a2))) c n))) 3 (fun _ _ => rfl) ?_
      refine q_RT_seg (g2 := (50, [(0, .ref 82), (1, .int a1), (2, .int a2)], [], (q_kN (q_sI (q_sA s 22 (upd (s.1 22) ((s.2.1 18 2).toNatClampNeg) ((((s.2.1 18 3) <<< (21 &&& 31)) + (a1 <<< (8 &&& 31))) + a2))) 18 2 ((s.2.1 18 2) + 1)) c n))) 3 (fun _ _ => rfl) ?_
      exact q_RT_ret rfl rfl rfl
    | false =>
      refine q_RT_cF ?_
      refine q_RT_rsT (g2 := (50, [(0, .ref 82), (1, .int a1), (2, .int a2)], [], (q_kN s c n))) rfl rfl (q_d_geF h2) ?_
      exact q_RT_ret rfl rfl rfl
def dz_N95_65_2 (m : Nat) : q_S → Int32 → Int32 → Option (q_S) := Nat.rec (motive := fun _ => q_S → Int32 → Int32 → Option (q_S)) (fun _ _ _ => none) (fun _ k2 s v1 v2 =>
  cond (decide (v2 < 2)) (cond (decide ((v1 >>> (v2 &&& 31)) &&& 1 = 1)) (cond (q_in ((12 : Int32) + (2 * v2)) 48) (cond (q_in (((12 : Int32) + (2 * v2)) + 1) 48) (cond (q_in v2 2) (k2 (q_sA s 7 (upd (s.1 7) (v2.toNatClampNeg) (((s.1 4) (((12 : Int32) + (2 * v2)).toNatClampNeg)) + (256 * ((s.1 4) ((((12 : Int32) + (2 * v2)) + 1).toNatClampNeg)))))) v1 (v2 + 1)) none) none) none) (k2 s v1 (v2 + 1))) (some s)) m
theorem dzs_N95_65_2 (m : Nat) (s : q_S) (v1 : Int32) (v2 : Int32) : dz_N95_65_2 (m + 1) s v1 v2 = (fun k2 : q_S → Int32 → Int32 → Option (q_S) =>
  cond (decide (v2 < 2)) (cond (decide ((v1 >>> (v2 &&& 31)) &&& 1 = 1)) (cond (q_in ((12 : Int32) + (2 * v2)) 48) (cond (q_in (((12 : Int32) + (2 * v2)) + 1) 48) (cond (q_in v2 2) (k2 (q_sA s 7 (upd (s.1 7) (v2.toNatClampNeg) (((s.1 4) (((12 : Int32) + (2 * v2)).toNatClampNeg)) + (256 * ((s.1 4) ((((12 : Int32) + (2 * v2)) + 1).toNatClampNeg)))))) v1 (v2 + 1)) none) none) none) (k2 s v1 (v2 + 1))) (some s)) (dz_N95_65_2 m) := rfl
set_option maxHeartbeats 4000000 in
theorem dzt_N95_65_2 (c n : Nat) : ∀ (m : Nat) (s : q_S) (v1 : Int32) (v2 : Int32), q_RP q_TB0 0 94 (2, [(0, .ref 65), (1, .int v1), (2, .int v2)], [], (q_kN s c n)) (q_oSN c n) (dz_N95_65_2 m s v1 v2) := by
  intro m
  induction m with
  | zero => intro s v1 v2; exact q_RP_no
  | succ m ih =>
    intro s v1 v2
    have hk2 := ih
    clear ih
    rw [dzs_N95_65_2]
    generalize dz_N95_65_2 m = k2 at hk2 ⊢
    dsimp only
    refine q_RP_seg (g2 := (4, [(0, .ref 65), (1, .int v1), (2, .int v2)], [.int 2, .int v2], (q_kN s c n))) 2 (fun _ _ => rfl) ?_
    cases h1 : decide (v2 < 2) with
    | true =>
      refine q_RP_cT ?_
      refine q_RP_rsF (g2 := (7, [(0, .ref 65), (1, .int v1), (2, .int v2)], [], (q_kN s c n))) rfl rfl (q_d_geT h1) ?_
      refine q_RP_seg (g2 := (13, [(0, .ref 65), (1, .int v1), (2, .int v2)], [.int 1, .int ((v1 >>> (v2 &&& 31)) &&& 1)], (q_kN s c n))) 6 (fun _ _ => rfl) ?_
      cases h2 : decide ((v1 >>> (v2 &&& 31)) &&& 1 = 1) with
      | true =>
        refine q_RP_cT ?_
        refine q_RP_rsF (g2 := (16, [(0, .ref 65), (1, .int v1), (2, .int v2)], [], (q_kN s c n))) rfl rfl (q_d_neT h2) ?_
        refine q_RP_seg (g2 := (34, [(0, .ref 65), (1, .int v1), (2, .int v2)], [.int ((12 : Int32) + (2 * v2)), .ref 68, .int v2, .ref 71], (q_kN s c n))) 11 (fun _ _ => rfl) ?_
        refine q_RP_as fun i3 => ?_
        refine q_RP_rsT (g2 := (35, [(0, .ref 65), (1, .int v1), (2, .int v2)], [.int ((s.1 4) (((12 : Int32) + (2 * v2)).toNatClampNeg)), .int v2, .ref 71], (q_kN s c n))) rfl rfl i3 ?_
        refine q_RP_seg (g2 := (53, [(0, .ref 65), (1, .int v1), (2, .int v2)], [.int (((12 : Int32) + (2 * v2)) + 1), .ref 68, .int 256, .int ((s.1 4) (((12 : Int32) + (2 * v2)).toNatClampNeg)), .int v2, .ref 71], (q_kN s c n))) 11 (fun _ _ => rfl) ?_
        refine q_RP_as fun i4 => ?_
        refine q_RP_rsT (g2 := (54, [(0, .ref 65), (1, .int v1), (2, .int v2)], [.int ((s.1 4) ((((12 : Int32) + (2 * v2)) + 1).toNatClampNeg)), .int 256, .int ((s.1 4) (((12 : Int32) + (2 * v2)).toNatClampNeg)), .int v2, .ref 71], (q_kN s c n))) rfl rfl i4 ?_
        refine q_RP_seg (g2 := (56, [(0, .ref 65), (1, .int v1), (2, .int v2)], [.int (((s.1 4) (((12 : Int32) + (2 * v2)).toNatClampNeg)) + (256 * ((s.1 4) ((((12 : Int32) + (2 * v2)) + 1).toNatClampNeg)))), .int v2, .ref 71], (q_kN s c n))) 2 (fun _ _ => rfl) ?_
        refine q_RP_as fun i5 => ?_
        refine q_RP_rsT (g2 := (57, [(0, .ref 65), (1, .int v1), (2, .int v2)], [], (q_kN (q_sA s 7 (upd (s.1 7) (v2.toNatClampNeg) (((s.1 4) (((12 : Int32) + (2 * v2)).toNatClampNeg)) + (256 * ((s.1 4) ((((12 : Int32) + (2 * v2)) + 1).toNatClampNeg)))))) c n))) rfl rfl i5 ?_
        refine q_RP_seg (g2 := (2, [(2, .int (v2 + 1)), (0, .ref 65), (1, .int v1)], [], (q_kN (q_sA s 7 (upd (s.1 7) (v2.toNatClampNeg) (((s.1 4) (((12 : Int32) + (2 * v2)).toNatClampNeg)) + (256 * ((s.1 4) ((((12 : Int32) + (2 * v2)) + 1).toNatClampNeg)))))) c n))) 2 (fun _ _ => rfl) ?_
        exact q_RP_xt (q_xt_mk (q_mn1 1 rfl (q_mn1 2 rfl (q_mn1 0 rfl q_mn0))) rfl) (hk2 (q_sA s 7 (upd (s.1 7) (v2.toNatClampNeg) (((s.1 4) (((12 : Int32) + (2 * v2)).toNatClampNeg)) + (256 * ((s.1 4) ((((12 : Int32) + (2 * v2)) + 1).toNatClampNeg)))))) v1 (v2 + 1))
      | false =>
        refine q_RP_cF ?_
        refine q_RP_rsT (g2 := (57, [(0, .ref 65), (1, .int v1), (2, .int v2)], [], (q_kN s c n))) rfl rfl (q_d_neF h2) ?_
        refine q_RP_seg (g2 := (2, [(2, .int (v2 + 1)), (0, .ref 65), (1, .int v1)], [], (q_kN s c n))) 2 (fun _ _ => rfl) ?_
        exact q_RP_xt (q_xt_mk (q_mn1 1 rfl (q_mn1 2 rfl (q_mn1 0 rfl q_mn0))) rfl) (hk2 s v1 (v2 + 1))
    | false =>
      refine q_RP_cF ?_
      refine q_RP_rsT (g2 := (63, [(0, .ref 65), (1, .int v1), (2, .int v2)], [], (q_kN s c n))) rfl rfl (q_d_geF h1) ?_
      exact q_RP_ret rfl rfl rfl
def dz_N95_65 (s : q_S) (a1 : Int32) : Option (q_S) :=
  dz_N95_65_2 5000 s a1 0
set_option maxHeartbeats 4000000 in
theorem dzt_N95_65 (s : q_S) (c n : Nat) (a1 : Int32) (x : q_S) (h : dz_N95_65 s a1 = some x) : q_Ca q_TB0 1 94 [.ref 65, .int a1] (q_kN s c n) ((q_oSN c n) x) := by
  refine q_CaP_of (φ := (q_oSN c n)) (Nat.le_of_ble_eq_true rfl) ?_ h
  clear h
  unfold dz_N95_65
  refine q_RP_seg (g2 := (2, [(2, .int 0), (0, .ref 65), (1, .int a1)], [], (q_kN s c n))) 2 (fun _ _ => rfl) ?_
  exact q_RP_xt (q_xt_mk (q_mn1 1 rfl (q_mn1 2 rfl (q_mn1 0 rfl q_mn0))) rfl) (dzt_N95_65_2 c n 5000 s a1 0)
def dz_N94_65 (s : q_S) (a1 : Int32) (a2 : Int32) : Option (q_S) :=
  cond (decide (a1 = 3850)) (q_let (dz_N112_66 (q_sA s 4 (upd (s.1 4) 10 (((s.1 4) 10) &&& (a2 ^^^ (-1))))) a1 a2) fun r5 => cond (decide (lg_cmp (((r5.2.2 1 8) / 960) - ((r5.2.2 1 8) / 960) / 2 * 2) 0 = 0)) (q_let (dz_N128_77 r5 a1 a2) fun r6 => some r6) (q_let (dz_N128_82 r5 a1 a2) fun r7 => some r7)) (cond (decide (a1 = 3856)) ((dz_N95_65 s (a2 &&& (((s.1 4) 16) ^^^ (-1)))).bind fun r8 => q_let (dz_N112_66 r8 a1 a2) fun r9 => cond (decide (lg_cmp (((r9.2.2 1 8) / 960) - ((r9.2.2 1 8) / 960) / 2 * 2) 0 = 0)) (q_let (dz_N128_77 r9 a1 a2) fun r10 => some r10) (q_let (dz_N128_82 r9 a1 a2) fun r11 => some r11)) (q_let (dz_N112_66 s a1 a2) fun r12 => cond (decide (lg_cmp (((r12.2.2 1 8) / 960) - ((r12.2.2 1 8) / 960) / 2 * 2) 0 = 0)) (q_let (dz_N128_77 r12 a1 a2) fun r13 => some r13) (q_let (dz_N128_82 r12 a1 a2) fun r14 => some r14)))
set_option maxHeartbeats 4000000 in
theorem dzt_N94_65 (s : q_S) (c n : Nat) (a1 : Int32) (a2 : Int32) (x : q_S) (h : dz_N94_65 s a1 a2 = some x) : q_Ca q_TB0 2 93 [.ref 65, .int a1, .int a2] (q_kN s c n) ((q_oSN c n) x) := by
  refine q_CaP_of (φ := (q_oSN c n)) (Nat.le_of_ble_eq_true rfl) ?_ h
  clear h
  unfold dz_N94_65
  refine q_RP_seg (g2 := (4, [(0, .ref 65), (1, .int a1), (2, .int a2)], [.int 3850, .int a1], (q_kN s c n))) 2 (fun _ _ => rfl) ?_
  cases h4 : decide (a1 = 3850) with
  | true =>
    refine q_RP_cT ?_
    refine q_RP_rsF (g2 := (7, [(0, .ref 65), (1, .int a1), (2, .int a2)], [], (q_kN s c n))) rfl rfl (q_d_neT h4) ?_
    refine q_RP_seg (g2 := (18, [(0, .ref 65), (1, .int a1), (2, .int a2)], [.int ((s.1 4) 10), .int 10, .ref 68], (q_kN s c n))) 6 (fun _ _ => rfl) ?_
    refine q_RP_seg (g2 := (57, [(0, .ref 65), (1, .int a1), (2, .int a2)], [.int a2, .int a1, .ref 66], (q_kN (q_sA s 4 (upd (s.1 4) 10 (((s.1 4) 10) &&& (a2 ^^^ (-1))))) c n))) 10 (fun _ _ => rfl) ?_
    refine q_RP_call (v := none) (h2 := (q_kN (dz_N112_66 (q_sA s 4 (upd (s.1 4) 10 (((s.1 4) 10) &&& (a2 ^^^ (-1))))) a1 a2) c n)) rfl rfl ((dzt_N112_66 (q_sA s 4 (upd (s.1 4) 10 (((s.1 4) 10) &&& (a2 ^^^ (-1))))) c n a1 a2).le (Nat.le_of_ble_eq_true rfl)) ?_
    generalize dz_N112_66 (q_sA s 4 (upd (s.1 4) 10 (((s.1 4) 10) &&& (a2 ^^^ (-1))))) a1 a2 = r5
    refine q_RP_let ?_
    show q_RP _ _ _ (60, [(0, .ref 65), (1, .int a1), (2, .int a2)], [], (q_kN r5 c n)) _ _
    refine q_RP_seg (g2 := (61, [(0, .ref 65), (1, .int a1), (2, .int a2)], [.ref 65], (q_kN r5 c n))) 1 (fun _ _ => rfl) ?_
    cases h5 : decide (lg_cmp (((r5.2.2 1 8) / 960) - ((r5.2.2 1 8) / 960) / 2 * 2) 0 = 0) with
    | true =>
      refine q_RP_cT ?_
      refine q_RP_call (v := (some (.ref 77))) (h2 := (q_kN r5 c n)) rfl rfl ?_ ?_
      · refine q_Ca_of (Nat.le_of_ble_eq_true rfl) ?_
        refine q_Ru_seg (g2 := (14, [(0, .ref 65)], [.int (lg_cmp (((r5.2.2 1 8) / 960) - ((r5.2.2 1 8) / 960) / 2 * 2) 0)], (q_kN r5 c n))) 8 (fun _ _ => rfl) ?_
        refine q_Ru_rsF (g2 := (17, [(0, .ref 65)], [], (q_kN r5 c n))) rfl rfl (q_d_neT h5) ?_
        refine q_Ru_seg (g2 := (28, [(0, .ref 65)], [.ref 77], (q_kN r5 c n))) 3 (fun _ _ => rfl) ?_
        exact q_Ru_ret rfl rfl
      show q_RP _ _ _ (64, [(0, .ref 65), (1, .int a1), (2, .int a2)], [.ref 77], (q_kN r5 c n)) _ _
      refine q_RP_seg (g2 := (66, [(0, .ref 65), (1, .int a1), (2, .int a2)], [.int a2, .int a1, .ref 77], (q_kN r5 c n))) 2 (fun _ _ => rfl) ?_
      refine q_RP_call (v := none) (h2 := (q_kN (dz_N128_77 r5 a1 a2) c n)) rfl rfl ((dzt_N128_77 r5 c n a1 a2).le (Nat.le_of_ble_eq_true rfl)) ?_
      generalize dz_N128_77 r5 a1 a2 = r6
      refine q_RP_let ?_
      show q_RP _ _ _ (69, [(0, .ref 65), (1, .int a1), (2, .int a2)], [], (q_kN r6 c n)) _ _
      exact q_RP_ret rfl rfl rfl
    | false =>
      refine q_RP_cF ?_
      refine q_RP_call (v := (some (.ref 82))) (h2 := (q_kN r5 c n)) rfl rfl ?_ ?_
      · refine q_Ca_of (Nat.le_of_ble_eq_true rfl) ?_
        refine q_Ru_seg (g2 := (14, [(0, .ref 65)], [.int (lg_cmp (((r5.2.2 1 8) / 960) - ((r5.2.2 1 8) / 960) / 2 * 2) 0)], (q_kN r5 c n))) 8 (fun _ _ => rfl) ?_
        refine q_Ru_rsT (g2 := (24, [(0, .ref 65)], [], (q_kN r5 c n))) rfl rfl (q_d_neF h5) ?_
        refine q_Ru_seg (g2 := (28, [(0, .ref 65)], [.ref 82], (q_kN r5 c n))) 2 (fun _ _ => rfl) ?_
        exact q_Ru_ret rfl rfl
      show q_RP _ _ _ (64, [(0, .ref 65), (1, .int a1), (2, .int a2)], [.ref 82], (q_kN r5 c n)) _ _
      refine q_RP_seg (g2 := (66, [(0, .ref 65), (1, .int a1), (2, .int a2)], [.int a2, .int a1, .ref 82], (q_kN r5 c n))) 2 (fun _ _ => rfl) ?_
      refine q_RP_call (v := none) (h2 := (q_kN (dz_N128_82 r5 a1 a2) c n)) rfl rfl ((dzt_N128_82 r5 c n a1 a2).le (Nat.le_of_ble_eq_true rfl)) ?_
      generalize dz_N128_82 r5 a1 a2 = r7
      refine q_RP_let ?_
      show q_RP _ _ _ (69, [(0, .ref 65), (1, .int a1), (2, .int a2)], [], (q_kN r7 c n)) _ _
      exact q_RP_ret rfl rfl rfl
  | false =>
    refine q_RP_cF ?_
    refine q_RP_rsT (g2 := (26, [(0, .ref 65), (1, .int a1), (2, .int a2)], [], (q_kN s c n))) rfl rfl (q_d_neF h4) ?_
    refine q_RP_seg (g2 := (30, [(0, .ref 65), (1, .int a1), (2, .int a2)], [.int 3856, .int a1], (q_kN s c n))) 2 (fun _ _ => rfl) ?_
    cases h6 : decide (a1 = 3856) with
    | true =>
      refine q_RP_cT ?_
      refine q_RP_rsF (g2 := (33, [(0, .ref 65), (1, .int a1), (2, .int a2)], [], (q_kN s c n))) rfl rfl (q_d_neT h6) ?_
      refine q_RP_seg (g2 := (45, [(0, .ref 65), (1, .int a1), (2, .int a2)], [.int ((s.1 4) 16), .int a2, .ref 65], (q_kN s c n))) 7 (fun _ _ => rfl) ?_
      refine q_RP_seg (g2 := (48, [(0, .ref 65), (1, .int a1), (2, .int a2)], [.int (a2 &&& (((s.1 4) 16) ^^^ (-1))), .ref 65], (q_kN s c n))) 3 (fun _ _ => rfl) ?_
      refine q_RP_bd fun r8 er8 => ?_
      refine q_RP_call (v := none) (h2 := (q_kN r8 c n)) rfl rfl ((dzt_N95_65 s c n (a2 &&& (((s.1 4) 16) ^^^ (-1))) r8 er8).le (Nat.le_of_ble_eq_true rfl)) ?_
      show q_RP _ _ _ (51, [(0, .ref 65), (1, .int a1), (2, .int a2)], [], (q_kN r8 c n)) _ _
      refine q_RP_seg (g2 := (57, [(0, .ref 65), (1, .int a1), (2, .int a2)], [.int a2, .int a1, .ref 66], (q_kN r8 c n))) 4 (fun _ _ => rfl) ?_
      refine q_RP_call (v := none) (h2 := (q_kN (dz_N112_66 r8 a1 a2) c n)) rfl rfl ((dzt_N112_66 r8 c n a1 a2).le (Nat.le_of_ble_eq_true rfl)) ?_
      generalize dz_N112_66 r8 a1 a2 = r9
      refine q_RP_let ?_
      show q_RP _ _ _ (60, [(0, .ref 65), (1, .int a1), (2, .int a2)], [], (q_kN r9 c n)) _ _
      refine q_RP_seg (g2 := (61, [(0, .ref 65), (1, .int a1), (2, .int a2)], [.ref 65], (q_kN r9 c n))) 1 (fun _ _ => rfl) ?_
      cases h7 : decide (lg_cmp (((r9.2.2 1 8) / 960) - ((r9.2.2 1 8) / 960) / 2 * 2) 0 = 0) with
      | true =>
        refine q_RP_cT ?_
        refine q_RP_call (v := (some (.ref 77))) (h2 := (q_kN r9 c n)) rfl rfl ?_ ?_
        · refine q_Ca_of (Nat.le_of_ble_eq_true rfl) ?_
          refine q_Ru_seg (g2 := (14, [(0, .ref 65)], [.int (lg_cmp (((r9.2.2 1 8) / 960) - ((r9.2.2 1 8) / 960) / 2 * 2) 0)], (q_kN r9 c n))) 8 (fun _ _ => rfl) ?_
          refine q_Ru_rsF (g2 := (17, [(0, .ref 65)], [], (q_kN r9 c n))) rfl rfl (q_d_neT h7) ?_
          refine q_Ru_seg (g2 := (28, [(0, .ref 65)], [.ref 77], (q_kN r9 c n))) 3 (fun _ _ => rfl) ?_
          exact q_Ru_ret rfl rfl
        show q_RP _ _ _ (64, [(0, .ref 65), (1, .int a1), (2, .int a2)], [.ref 77], (q_kN r9 c n)) _ _
        refine q_RP_seg (g2 := (66, [(0, .ref 65), (1, .int a1), (2, .int a2)], [.int a2, .int a1, .ref 77], (q_kN r9 c n))) 2 (fun _ _ => rfl) ?_
        refine q_RP_call (v := none) (h2 := (q_kN (dz_N128_77 r9 a1 a2) c n)) rfl rfl ((dzt_N128_77 r9 c n a1 a2).le (Nat.le_of_ble_eq_true rfl)) ?_
        generalize dz_N128_77 r9 a1 a2 = r10
        refine q_RP_let ?_
        show q_RP _ _ _ (69, [(0, .ref 65), (1, .int a1), (2, .int a2)], [], (q_kN r10 c n)) _ _
        exact q_RP_ret rfl rfl rfl
      | false =>
        refine q_RP_cF ?_
        refine q_RP_call (v := (some (.ref 82))) (h2 := (q_kN r9 c n)) rfl rfl ?_ ?_
        · refine q_Ca_of (Nat.le_of_ble_eq_true rfl) ?_
          refine q_Ru_seg (g2 := (14, [(0, .ref 65)], [.int (lg_cmp (((r9.2.2 1 8) / 960) - ((r9.2.2 1 8) / 960) / 2 * 2) 0)], (q_kN r9 c n))) 8 (fun _ _ => rfl) ?_
          refine q_Ru_rsT (g2 := (24, [(0, .ref 65)], [], (q_kN r9 c n))) rfl rfl (q_d_neF h7) ?_
          refine q_Ru_seg (g2 := (28, [(0, .ref 65)], [.ref 82], (q_kN r9 c n))) 2 (fun _ _ => rfl) ?_
          exact q_Ru_ret rfl rfl
        show q_RP _ _ _ (64, [(0, .ref 65), (1, .int a1), (2, .int a2)], [.ref 82], (q_kN r9 c n)) _ _
        refine q_RP_seg (g2 := (66, [(0, .ref 65), (1, .int a1), (2, .int a2)], [.int a2, .int a1, .ref 82], (q_kN r9 c n))) 2 (fun _ _ => rfl) ?_
        refine q_RP_call (v := none) (h2 := (q_kN (dz_N128_82 r9 a1 a2) c n)) rfl rfl ((dzt_N128_82 r9 c n a1 a2).le (Nat.le_of_ble_eq_true rfl)) ?_
        generalize dz_N128_82 r9 a1 a2 = r11
        refine q_RP_let ?_
        show q_RP _ _ _ (69, [(0, .ref 65), (1, .int a1), (2, .int a2)], [], (q_kN r11 c n)) _ _
        exact q_RP_ret rfl rfl rfl
    | false =>
      refine q_RP_cF ?_
      refine q_RP_rsT (g2 := (51, [(0, .ref 65), (1, .int a1), (2, .int a2)], [], (q_kN s c n))) rfl rfl (q_d_neF h6) ?_
      refine q_RP_seg (g2 := (57, [(0, .ref 65), (1, .int a1), (2, .int a2)], [.int a2, .int a1, .ref 66], (q_kN s c n))) 4 (fun _ _ => rfl) ?_
      refine q_RP_call (v := none) (h2 := (q_kN (dz_N112_66 s a1 a2) c n)) rfl rfl ((dzt_N112_66 s c n a1 a2).le (Nat.le_of_ble_eq_true rfl)) ?_
      generalize dz_N112_66 s a1 a2 = r12
      refine q_RP_let ?_
      show q_RP _ _ _ (60, [(0, .ref 65), (1, .int a1), (2, .int a2)], [], (q_kN r12 c n)) _ _
      refine q_RP_seg (g2 := (61, [(0, .ref 65), (1, .int a1), (2, .int a2)], [.ref 65], (q_kN r12 c n))) 1 (fun _ _ => rfl) ?_
      cases h8 : decide (lg_cmp (((r12.2.2 1 8) / 960) - ((r12.2.2 1 8) / 960) / 2 * 2) 0 = 0) with
      | true =>
        refine q_RP_cT ?_
        refine q_RP_call (v := (some (.ref 77))) (h2 := (q_kN r12 c n)) rfl rfl ?_ ?_
        · refine q_Ca_of (Nat.le_of_ble_eq_true rfl) ?_
          refine q_Ru_seg (g2 := (14, [(0, .ref 65)], [.int (lg_cmp (((r12.2.2 1 8) / 960) - ((r12.2.2 1 8) / 960) / 2 * 2) 0)], (q_kN r12 c n))) 8 (fun _ _ => rfl) ?_
          refine q_Ru_rsF (g2 := (17, [(0, .ref 65)], [], (q_kN r12 c n))) rfl rfl (q_d_neT h8) ?_
          refine q_Ru_seg (g2 := (28, [(0, .ref 65)], [.ref 77], (q_kN r12 c n))) 3 (fun _ _ => rfl) ?_
          exact q_Ru_ret rfl rfl
        show q_RP _ _ _ (64, [(0, .ref 65), (1, .int a1), (2, .int a2)], [.ref 77], (q_kN r12 c n)) _ _
        refine q_RP_seg (g2 := (66, [(0, .ref 65), (1, .int a1), (2, .int a2)], [.int a2, .int a1, .ref 77], (q_kN r12 c n))) 2 (fun _ _ => rfl) ?_
        refine q_RP_call (v := none) (h2 := (q_kN (dz_N128_77 r12 a1 a2) c n)) rfl rfl ((dzt_N128_77 r12 c n a1 a2).le (Nat.le_of_ble_eq_true rfl)) ?_
        generalize dz_N128_77 r12 a1 a2 = r13
        refine q_RP_let ?_
        show q_RP _ _ _ (69, [(0, .ref 65), (1, .int a1), (2, .int a2)], [], (q_kN r13 c n)) _ _
        exact q_RP_ret rfl rfl rfl
      | false =>
        refine q_RP_cF ?_
        refine q_RP_call (v := (some (.ref 82))) (h2 := (q_kN r12 c n)) rfl rfl ?_ ?_
        · refine q_Ca_of (Nat.le_of_ble_eq_true rfl) ?_
          refine q_Ru_seg (g2 := (14, [(0, .ref 65)], [.int (lg_cmp (((r12.2.2 1 8) / 960) - ((r12.2.2 1 8) / 960) / 2 * 2) 0)], (q_kN r12 c n))) 8 (fun _ _ => rfl) ?_
          refine q_Ru_rsT (g2 := (24, [(0, .ref 65)], [], (q_kN r12 c n))) rfl rfl (q_d_neF h8) ?_
          refine q_Ru_seg (g2 := (28, [(0, .ref 65)], [.ref 82], (q_kN r12 c n))) 2 (fun _ _ => rfl) ?_
          exact q_Ru_ret rfl rfl
        show q_RP _ _ _ (64, [(0, .ref 65), (1, .int a1), (2, .int a2)], [.ref 82], (q_kN r12 c n)) _ _
        refine q_RP_seg (g2 := (66, [(0, .ref 65), (1, .int a1), (2, .int a2)], [.int a2, .int a1, .ref 82], (q_kN r12 c n))) 2 (fun _ _ => rfl) ?_
        refine q_RP_call (v := none) (h2 := (q_kN (dz_N128_82 r12 a1 a2) c n)) rfl rfl ((dzt_N128_82 r12 c n a1 a2).le (Nat.le_of_ble_eq_true rfl)) ?_
        generalize dz_N128_82 r12 a1 a2 = r14
        refine q_RP_let ?_
        show q_RP _ _ _ (69, [(0, .ref 65), (1, .int a1), (2, .int a2)], [], (q_kN r14 c n)) _ _
        exact q_RP_ret rfl rfl rfl
def dz_N97_65 (s : q_S) (a1 : Int32) (a2 : Int32) : Option (q_S × Int32) :=
  (dz_N90_65 s a1).bind fun r2 => (dz_N94_65 s a1 a2).bind fun r3 => some (r3, r2)
set_option maxHeartbeats 4000000 in
theorem dzt_N97_65 (s : q_S) (c n : Nat) (a1 : Int32) (a2 : Int32) (x : q_S × Int32) (h : dz_N97_65 s a1 a2 = some x) : q_Ca q_TB0 3 96 [.ref 65, .int a1, .int a2] (q_kN s c n) ((q_oIN c n) x) := by
  refine q_CaP_of (φ := (q_oIN c n)) (Nat.le_of_ble_eq_true rfl) ?_ h
  clear h
  unfold dz_N97_65
  refine q_RP_seg (g2 := (2, [(0, .ref 65), (1, .int a1), (2, .int a2)], [.int a1, .ref 65], (q_kN s c n))) 2 (fun _ _ => rfl) ?_
  refine q_RP_bd fun r2 er2 => ?_
  refine q_RP_call (v := (some (.int r2))) (h2 := (q_kN s c n)) rfl rfl ((dzt_N90_65 s c n a1 r2 er2).le (Nat.le_of_ble_eq_true rfl)) ?_
  show q_RP _ _ _ (5, [(0, .ref 65), (1, .int a1), (2, .int a2)], [.int r2], (q_kN s c n)) _ _
  refine q_RP_seg (g2 := (9, [(3, .int r2), (0, .ref 65), (1, .int a1), (2, .int a2)], [.int a2, .int a1, .ref 65], (q_kN s c n))) 4 (fun _ _ => rfl) ?_
  refine q_RP_bd fun r3 er3 => ?_
  refine q_RP_call (v := none) (h2 := (q_kN r3 c n)) rfl rfl ((dzt_N94_65 s c n a1 a2 r3 er3).le (Nat.le_of_ble_eq_true rfl)) ?_
  show q_RP _ _ _ (12, [(3, .int r2), (0, .ref 65), (1, .int a1), (2, .int a2)], [], (q_kN r3 c n)) _ _
  refine q_RP_seg (g2 := (13, [(3, .int r2), (0, .ref 65), (1, .int a1), (2, .int a2)], [.int r2], (q_kN r3 c n))) 1 (fun _ _ => rfl) ?_
  exact q_RP_ret rfl rfl rfl
def dz_N98_65 (s : q_S) (a1 : Int32) (a2 : Int32) : q_S × Int32 :=
  ((q_sA s 5 (upd (s.1 5) ((a1 &&& 511).toNatClampNeg) a2)), ((s.1 5) ((a1 &&& 511).toNatClampNeg)))
set_option maxHeartbeats 4000000 in
theorem dzt_N98_65 (s : q_S) (c n : Nat) (a1 : Int32) (a2 : Int32) : q_Ca q_TB0 1 97 [.ref 65, .int a1, .int a2] (q_kN s c n) ((q_oIN c n) (dz_N98_65 s a1 a2)) := by
  refine q_CaT_of (φ := (q_oIN c n)) (Nat.le_of_ble_eq_true rfl) ?_
  unfold dz_N98_65
  refine q_RT_seg (g2 := (11, [(3, .int (a1 &&& 511)), (0, .ref 65), (1, .int a1), (2, .int a2)], [.int (a1 &&& 511), .ref 69], (q_kN s c n))) 7 (fun _ _ => rfl) ?_
  refine q_RT_rsT (g2 := (12, [(3, .int (a1 &&& 511)), (0, .ref 65), (1, .int a1), (2, .int a2)], [.int ((s.1 5) ((a1 &&& 511).toNatClampNeg))], (q_kN s c n))) rfl rfl (q_in_bd (x := a1 &&& 511) (n := 512) (U := 511) (L := 0) (q_and_lo a1 511) (q_and_hi a1 511 511)) ?_
  refine q_RT_seg (g2 := (20, [(4, .int ((s.1 5) ((a1 &&& 511).toNatClampNeg))), (3, .int (a1 &&& 511)), (0, .ref 65), (1, .int a1), (2, .int a2)], [.int a2, .int (a1 &&& 511), .ref 69], (q_kN s c n))) 5 (fun _ _ => rfl) ?_
  refine q_RT_rsT (g2 := (21, [(4, .int ((s.1 5) ((a1 &&& 511).toNatClampNeg))), (3, .int (a1 &&& 511)), (0, .ref 65), (1, .int a1), (2, .int a2)], [], (q_kN (q_sA s 5 (upd (s.1 5) ((a1 &&& 511).toNatClampNeg) a2)) c n))) rfl rfl (q_in_bd (x := a1 &&& 511) (n := 512) (U := 511) (L := 0) (q_and_lo a1 511) (q_and_hi a1 511 511)) ?_
  refine q_RT_seg (g2 := (23, [(4, .int ((s.1 5) ((a1 &&& 511).toNatClampNeg))), (3, .int (a1 &&& 511)), (0, .ref 65), (1, .int a1), (2, .int a2)], [.int ((s.1 5) ((a1 &&& 511).toNatClampNeg))], (q_kN (q_sA s 5 (upd (s.1 5) ((a1 &&& 511).toNatClampNeg) a2)) c n))) 1 (fun _ _ => rfl) ?_
  exact q_RT_ret rfl rfl rfl
def dz_N99_65 (s : q_S) (a1 : Int32) (a2 : Int32) : q_S × Int32 :=
  ((q_sA s 6 (upd (s.1 6) ((a1 &&& 2047).toNatClampNeg) a2)), ((s.1 6) ((a1 &&& 2047).toNatClampNeg)))
set_option maxHeartbeats 4000000 in
theorem dzt_N99_65 (s : q_S) (c n : Nat) (a1 : Int32) (a2 : Int32) : q_Ca q_TB0 1 98 [.ref 65, .int a1, .int a2] (q_kN s c n) ((q_oIN c n) (dz_N99_65 s a1 a2)) := by
  refine q_CaT_of (φ := (q_oIN c n)) (Nat.le_of_ble_eq_true rfl) ?_
  unfold dz_N99_65
  refine q_RT_seg (g2 := (11, [(3, .int (a1 &&& 2047)), (0, .ref 65), (1, .int a1), (2, .int a2)], [.int (a1 &&& 2047), .ref 70], (q_kN s c n))) 7 (fun _ _ => rfl) ?_
  refine q_RT_rsT (g2 := (12, [(3, .int (a1 &&& 2047)), (0, .ref 65), (1, .int a1), (2, .int a2)], [.int ((s.1 6) ((a1 &&& 2047).toNatClampNeg))], (q_kN s c n))) rfl rfl (q_in_bd (x := a1 &&& 2047) (n := 2048) (U := 2047) (L := 0) (q_and_lo a1 2047) (q_and_hi a1 2047 2047)) ?_
  refine q_RT_seg (g2 := (20, [(4, .int ((s.1 6) ((a1 &&& 2047).toNatClampNeg))), (3, .int (a1 &&& 2047)), (0, .ref 65), (1, .int a1), (2, .int a2)], [.int a2, .int (a1 &&& 2047), .ref 70], (q_kN s c n))) 5 (fun _ _ => rfl) ?_
  refine q_RT_rsT (g2 := (21, [(4, .int ((s.1 6) ((a1 &&& 2047).toNatClampNeg))), (3, .int (a1 &&& 2047)), (0, .ref 65), (1, .int a1), (2, .int a2)], [], (q_kN (q_sA s 6 (upd (s.1 6) ((a1 &&& 2047).toNatClampNeg) a2)) c n))) rfl rfl (q_in_bd (x := a1 &&& 2047) (n := 2048) (U := 2047) (L := 0) (q_and_lo a1 2047) (q_and_hi a1 2047 2047)) ?_
  refine q_RT_seg (g2 := (23, [(4, .int ((s.1 6) ((a1 &&& 2047).toNatClampNeg))), (3, .int (a1 &&& 2047)), (0, .ref 65), (1, .int a1), (2, .int a2)], [.int ((s.1 6) ((a1 &&& 2047).toNatClampNeg))], (q_kN (q_sA s 6 (upd (s.1 6) ((a1 &&& 2047).toNatClampNeg) a2)) c n))) 1 (fun _ _ => rfl) ?_
  exact q_RT_ret rfl rfl rfl
def dz_N186 (s : q_S) (a0 : Int32) : Int32 :=
  cond (decide (a0 < 128)) ((a0 / 8)) (cond (decide (a0 < 192)) ((-1)) (cond (decide (231 < a0)) ((-1)) (((a0 / 8) - 8))))
set_option maxHeartbeats 4000000 in
theorem dzt_N186 (s : q_S) (c n : Nat) (a0 : Int32) : q_Ca q_TB0 1 185 [.int a0] (q_kN s c n) ((q_oP (q_kN s c n)) (dz_N186 s a0)) := by
  refine q_CaT_of (φ := (q_oP (q_kN s c n))) (Nat.le_of_ble_eq_true rfl) ?_
  unfold dz_N186
  refine q_RT_seg (g2 := (4, [(0, .int a0)], [.int 128, .int a0], (q_kN s c n))) 2 (fun _ _ => rfl) ?_
  cases h1 : decide (a0 < 128) with
  | true =>
    refine q_RT_cT ?_
    refine q_RT_rsF (g2 := (7, [(0, .int a0)], [], (q_kN s c n))) rfl rfl (q_d_geT h1) ?_
    refine q_RT_seg (g2 := (11, [(0, .int a0)], [.int (a0 / 8)], (q_kN s c n))) 3 (fun _ _ => rfl) ?_
    exact q_RT_ret rfl rfl rfl
  | false =>
    refine q_RT_cF ?_
    refine q_RT_rsT (g2 := (12, [(0, .int a0)], [], (q_kN s c n))) rfl rfl (q_d_geF h1) ?_
    refine q_RT_seg (g2 := (16, [(0, .int a0)], [.int 192, .int a0], (q_kN s c n))) 2 (fun _ _ => rfl) ?_
    cases h2 : decide (a0 < 192) with
    | true =>
      refine q_RT_cT ?_
      refine q_RT_rsT (g2 := (36, [(0, .int a0)], [], (q_kN s c n))) rfl rfl h2 ?_
      refine q_RT_seg (g2 := (37, [(0, .int a0)], [.int (-1)], (q_kN s c n))) 1 (fun _ _ => rfl) ?_
      exact q_RT_ret rfl rfl rfl
    | false =>
      refine q_RT_cF ?_
      refine q_RT_rsF (g2 := (19, [(0, .int a0)], [], (q_kN s c n))) rfl rfl h2 ?_
      refine q_RT_seg (g2 := (23, [(0, .int a0)], [.int 231, .int a0], (q_kN s c n))) 2 (fun _ _ => rfl) ?_
      cases h3 : decide (231 < a0) with
      | true =>
        refine q_RT_cT ?_
        refine q_RT_rsT (g2 := (36, [(0, .int a0)], [], (q_kN s c n))) rfl rfl h3 ?_
        refine q_RT_seg (g2 := (37, [(0, .int a0)], [.int (-1)], (q_kN s c n))) 1 (fun _ _ => rfl) ?_
        exact q_RT_ret rfl rfl rfl
      | false =>
        refine q_RT_cF ?_
        refine q_RT_rsF (g2 := (26, [(0, .int a0)], [], (q_kN s c n))) rfl rfl h3 ?_
        refine q_RT_seg (g2 := (37, [(0, .int a0)], [.int ((a0 / 8) - 8)], (q_kN s c n))) 6 (fun _ _ => rfl) ?_
        exact q_RT_ret rfl rfl rfl
def dz_N190 (s : q_S) (a0 : Int32) : Int32 :=
  q_let (dz_N186 s a0) fun r1 => cond (decide (r1 < 0)) (cond (decide (a0 < 157)) (1) (cond (decide (167 < a0)) (1) (cond (decide (a0 < 160)) (3) (2)))) (cond (decide (a0 &&& 7 < 3)) (2) (cond (decide (5 < a0 &&& 7)) (2) (3)))
set_option maxHeartbeats 4000000 in
theorem dzt_N190 (s : q_S) (c n : Nat) (a0 : Int32) : q_Ca q_TB0 2 189 [.int a0] (q_kN s c n) ((q_oP (q_kN s c n)) (dz_N190 s a0)) := by
  refine q_CaT_of (φ := (q_oP (q_kN s c n))) (Nat.le_of_ble_eq_true rfl) ?_
  unfold dz_N190
  refine q_RT_seg (g2 := (1, [(0, .int a0)], [.int a0], (q_kN s c n))) 1 (fun _ _ => rfl) ?_
  refine q_RT_call (v := (some (.int (dz_N186 s a0)))) (h2 := (q_kN s c n)) rfl rfl ((dzt_N186 s c n a0).le (Nat.le_of_ble_eq_true rfl)) ?_
  generalize dz_N186 s a0 = r1
  refine q_RT_let ?_
  show q_RT _ _ _ (4, [(0, .int a0)], [.int r1], (q_kN s c n)) _ _
  cases h1 : decide (r1 < 0) with
  | true =>
    refine q_RT_cT ?_
    refine q_RT_rsT (g2 := (28, [(0, .int a0)], [], (q_kN s c n))) rfl rfl h1 ?_
    refine q_RT_seg (g2 := (32, [(0, .int a0)], [.int 157, .int a0], (q_kN s c n))) 2 (fun _ _ => rfl) ?_
    cases h2 : decide (a0 < 157) with
    | true =>
      refine q_RT_cT ?_
      refine q_RT_rsT (g2 := (42, [(0, .int a0)], [], (q_kN s c n))) rfl rfl h2 ?_
      refine q_RT_seg (g2 := (43, [(0, .int a0)], [.int 1], (q_kN s c n))) 1 (fun _ _ => rfl) ?_
      exact q_RT_ret rfl rfl rfl
    | false =>
      refine q_RT_cF ?_
      refine q_RT_rsF (g2 := (35, [(0, .int a0)], [], (q_kN s c n))) rfl rfl h2 ?_
      refine q_RT_seg (g2 := (39, [(0, .int a0)], [.int 167, .int a0], (q_kN s c n))) 2 (fun _ _ => rfl) ?_
      cases h3 : decide (167 < a0) with
      | true =>
        refine q_RT_cT ?_
        refine q_RT_rsF (g2 := (42, [(0, .int a0)], [], (q_kN s c n))) rfl rfl (q_d_geT h3) ?_
        refine q_RT_seg (g2 := (43, [(0, .int a0)], [.int 1], (q_kN s c n))) 1 (fun _ _ => rfl) ?_
        exact q_RT_ret rfl rfl rfl
      | false =>
        refine q_RT_cF ?_
        refine q_RT_rsT (g2 := (44, [(0, .int a0)], [], (q_kN s c n))) rfl rfl (q_d_geF h3) ?_
        refine q_RT_seg (g2 := (48, [(0, .int a0)], [.int 160, .int a0], (q_kN s c n))) 2 (fun _ _ => rfl) ?_
        cases h4 : decide (a0 < 160) with
        | true =>
          refine q_RT_cT ?_
          refine q_RT_rsF (g2 := (51, [(0, .int a0)], [], (q_kN s c n))) rfl rfl (q_d_geT h4) ?_
          refine q_RT_seg (g2 := (56, [(0, .int a0)], [.int 3], (q_kN s c n))) 2 (fun _ _ => rfl) ?_
          exact q_RT_ret rfl rfl rfl
        | false =>
          refine q_RT_cF ?_
          refine q_RT_rsT (g2 := (55, [(0, .int a0)], [], (q_kN s c n))) rfl rfl (q_d_geF h4) ?_
          refine q_RT_seg (g2 := (56, [(0, .int a0)], [.int 2], (q_kN s c n))) 1 (fun _ _ => rfl) ?_
          exact q_RT_ret rfl rfl rfl
  | false =>
    refine q_RT_cF ?_
    refine q_RT_rsF (g2 := (7, [(0, .int a0)], [], (q_kN s c n))) rfl rfl h1 ?_
    refine q_RT_seg (g2 := (14, [(1, .int (a0 &&& 7)), (0, .int a0)], [.int 3, .int (a0 &&& 7)], (q_kN s c n))) 6 (fun _ _ => rfl) ?_
    cases h5 : decide (a0 &&& 7 < 3) with
    | true =>
      refine q_RT_cT ?_
      refine q_RT_rsT (g2 := (26, [(1, .int (a0 &&& 7)), (0, .int a0)], [], (q_kN s c n))) rfl rfl h5 ?_
      refine q_RT_seg (g2 := (27, [(1, .int (a0 &&& 7)), (0, .int a0)], [.int 2], (q_kN s c n))) 1 (fun _ _ => rfl) ?_
      exact q_RT_ret rfl rfl rfl
    | false =>
      refine q_RT_cF ?_
      refine q_RT_rsF (g2 := (17, [(1, .int (a0 &&& 7)), (0, .int a0)], [], (q_kN s c n))) rfl rfl h5 ?_
      refine q_RT_seg (g2 := (19, [(1, .int (a0 &&& 7)), (0, .int a0)], [.int 5, .int (a0 &&& 7)], (q_kN s c n))) 2 (fun _ _ => rfl) ?_
      cases h6 : decide (5 < a0 &&& 7) with
      | true =>
        refine q_RT_cT ?_
        refine q_RT_rsT (g2 := (26, [(1, .int (a0 &&& 7)), (0, .int a0)], [], (q_kN s c n))) rfl rfl h6 ?_
        refine q_RT_seg (g2 := (27, [(1, .int (a0 &&& 7)), (0, .int a0)], [.int 2], (q_kN s c n))) 1 (fun _ _ => rfl) ?_
        exact q_RT_ret rfl rfl rfl
      | false =>
        refine q_RT_cF ?_
        refine q_RT_rsF (g2 := (22, [(1, .int (a0 &&& 7)), (0, .int a0)], [], (q_kN s c n))) rfl rfl h6 ?_
        refine q_RT_seg (g2 := (27, [(1, .int (a0 &&& 7)), (0, .int a0)], [.int 3], (q_kN s c n))) 2 (fun _ _ => rfl) ?_
        exact q_RT_ret rfl rfl rfl
def dz_N100_65_34 (s : q_S) (v1 : Int32) (v3 : Int32) (v4 : Int32) : Option (q_S × Int32) :=
  cond (decide (2 < v4)) ((dz_N94_65 s ((v1 + 2) &&& 4095) (v3 >>> ((8 &&& 31) : Int32))).bind fun r6 => some (r6, ((v1 + v4) &&& 4095))) (some (s, ((v1 + v4) &&& 4095)))
set_option maxHeartbeats 4000000 in
theorem dzt_N100_65_34 (c n : Nat) (s : q_S) (v1 : Int32) (v3 : Int32) (v4 : Int32) : q_RP q_TB0 2 99 (34, [(0, .ref 65), (1, .int v1), (3, .int v3), (4, .int v4)], [], (q_kN s c n)) (q_oIN c n) (dz_N100_65_34 s v1 v3 v4) := by
  unfold dz_N100_65_34
  refine q_RP_seg (g2 := (37, [(0, .ref 65), (1, .int v1), (3, .int v3), (4, .int v4)], [.int 2, .int v4], (q_kN s c n))) 2 (fun _ _ => rfl) ?_
  cases h2 : decide (2 < v4) with
  | true =>
    refine q_RP_cT ?_
    refine q_RP_rsF (g2 := (40, [(0, .ref 65), (1, .int v1), (3, .int v3), (4, .int v4)], [], (q_kN s c n))) rfl rfl (q_d_geT h2) ?_
    refine q_RP_seg (g2 := (52, [(0, .ref 65), (1, .int v1), (3, .int v3), (4, .int v4)], [.int (v3 >>> ((8 &&& 31) : Int32)), .int ((v1 + 2) &&& 4095), .ref 65], (q_kN s c n))) 9 (fun _ _ => rfl) ?_
    refine q_RP_bd fun r6 er6 => ?_
    refine q_RP_call (v := none) (h2 := (q_kN r6 c n)) rfl rfl ((dzt_N94_65 s c n ((v1 + 2) &&& 4095) (v3 >>> ((8 &&& 31) : Int32)) r6 er6).le (Nat.le_of_ble_eq_true rfl)) ?_
    show q_RP _ _ _ (55, [(0, .ref 65), (1, .int v1), (3, .int v3), (4, .int v4)], [], (q_kN r6 c n)) _ _
    refine q_RP_seg (g2 := (63, [(0, .ref 65), (1, .int v1), (3, .int v3), (4, .int v4)], [.int ((v1 + v4) &&& 4095)], (q_kN r6 c n))) 5 (fun _ _ => rfl) ?_
    exact q_RP_ret rfl rfl rfl
  | false =>
    refine q_RP_cF ?_
    refine q_RP_rsT (g2 := (55, [(0, .ref 65), (1, .int v1), (3, .int v3), (4, .int v4)], [], (q_kN s c n))) rfl rfl (q_d_geF h2) ?_
    refine q_RP_seg (g2 := (63, [(0, .ref 65), (1, .int v1), (3, .int v3), (4, .int v4)], [.int ((v1 + v4) &&& 4095)], (q_kN s c n))) 5 (fun _ _ => rfl) ?_
    exact q_RP_ret rfl rfl rfl
def dz_N100_65 (s : q_S) (a1 : Int32) (a2 : Int32) (a3 : Int32) : Option (q_S × Int32) :=
  q_let (dz_N190 s a2) fun r3 => (dz_N94_65 s a1 a2).bind fun r4 => cond (decide (1 < r3)) ((dz_N94_65 r4 ((a1 + 1) &&& 4095) (a3 &&& 255)).bind fun r5 => dz_N100_65_34 r5 a1 a3 r3) (dz_N100_65_34 r4 a1 a3 r3)
set_option maxHeartbeats 4000000 in
theorem dzt_N100_65 (s : q_S) (c n : Nat) (a1 : Int32) (a2 : Int32) (a3 : Int32) (x : q_S × Int32) (h : dz_N100_65 s a1 a2 a3 = some x) : q_Ca q_TB0 3 99 [.ref 65, .int a1, .int a2, .int a3] (q_kN s c n) ((q_oIN c n) x) := by
  refine q_CaP_of (φ := (q_oIN c n)) (Nat.le_of_ble_eq_true rfl) ?_ h
  clear h
  unfold dz_N100_65
  refine q_RP_seg (g2 := (1, [(0, .ref 65), (1, .int a1), (2, .int a2), (3, .int a3)], [.int a2], (q_kN s c n))) 1 (fun _ _ => rfl) ?_
  refine q_RP_call (v := (some (.int (dz_N190 s a2)))) (h2 := (q_kN s c n)) rfl rfl ((dzt_N190 s c n a2).le (Nat.le_of_ble_eq_true rfl)) ?_
  generalize dz_N190 s a2 = r3
  refine q_RP_let ?_
  show q_RP _ _ _ (4, [(0, .ref 65), (1, .int a1), (2, .int a2), (3, .int a3)], [.int r3], (q_kN s c n)) _ _
  refine q_RP_seg (g2 := (9, [(4, .int r3), (0, .ref 65), (1, .int a1), (2, .int a2), (3, .int a3)], [.int a2, .int a1, .ref 65], (q_kN s c n))) 4 (fun _ _ => rfl) ?_
  refine q_RP_bd fun r4 er4 => ?_
  refine q_RP_call (v := none) (h2 := (q_kN r4 c n)) rfl rfl ((dzt_N94_65 s c n a1 a2 r4 er4).le (Nat.le_of_ble_eq_true rfl)) ?_
  show q_RP _ _ _ (12, [(4, .int r3), (0, .ref 65), (1, .int a1), (2, .int a2), (3, .int a3)], [], (q_kN r4 c n)) _ _
  refine q_RP_seg (g2 := (15, [(4, .int r3), (0, .ref 65), (1, .int a1), (2, .int a2), (3, .int a3)], [.int 1, .int r3], (q_kN r4 c n))) 2 (fun _ _ => rfl) ?_
  cases h1 : decide (1 < r3) with
  | true =>
    refine q_RP_cT ?_
    refine q_RP_rsF (g2 := (18, [(4, .int r3), (0, .ref 65), (1, .int a1), (2, .int a2), (3, .int a3)], [], (q_kN r4 c n))) rfl rfl (q_d_geT h1) ?_
    refine q_RP_seg (g2 := (31, [(4, .int r3), (0, .ref 65), (1, .int a1), (2, .int a2), (3, .int a3)], [.int (a3 &&& 255), .int ((a1 + 1) &&& 4095), .ref 65], (q_kN r4 c n))) 9 (fun _ _ => rfl) ?_
    refine q_RP_bd fun r5 er5 => ?_
    refine q_RP_call (v := none) (h2 := (q_kN r5 c n)) rfl rfl ((dzt_N94_65 r4 c n ((a1 + 1) &&& 4095) (a3 &&& 255) r5 er5).le (Nat.le_of_ble_eq_true rfl)) ?_
    show q_RP _ _ _ (34, [(4, .int r3), (0, .ref 65), (1, .int a1), (2, .int a2), (3, .int a3)], [], (q_kN r5 c n)) _ _
    exact q_RP_xt (q_xt_mk (q_mn1 1 rfl (q_mn1 2 rfl (q_mn1 4 rfl (q_mn1 0 rfl q_mn0)))) rfl) (dzt_N100_65_34 c n r5 a1 a3 r3)
  | false =>
    refine q_RP_cF ?_
    refine q_RP_rsT (g2 := (34, [(4, .int r3), (0, .ref 65), (1, .int a1), (2, .int a2), (3, .int a3)], [], (q_kN r4 c n))) rfl rfl (q_d_geF h1) ?_
    exact q_RP_xt (q_xt_mk (q_mn1 1 rfl (q_mn1 2 rfl (q_mn1 4 rfl (q_mn1 0 rfl q_mn0)))) rfl) (dzt_N100_65_34 c n r4 a1 a3 r3)
def dz_N133_87 (s : q_S) (a1 : Int32) : Int32 :=
  cond (decide (a1 < 0)) ((s.2.1 23 4)) (cond (decide (3 < a1)) ((s.2.1 23 4)) (cond (decide (a1 = 0)) ((s.2.1 23 0)) (cond (decide (a1 = 1)) ((s.2.1 23 1)) (cond (decide (a1 = 2)) ((s.2.1 23 2)) ((s.2.1 23 3))))))
set_option maxHeartbeats 4000000 in
theorem dzt_N133_87 (s : q_S) (c n : Nat) (a1 : Int32) : q_Ca q_TB0 1 132 [.ref 87, .int a1] (q_kN s c n) ((q_oP (q_kN s c n)) (dz_N133_87 s a1)) := by
  refine q_CaT_of (φ := (q_oP (q_kN s c n))) (Nat.le_of_ble_eq_true rfl) ?_
  unfold dz_N133_87
  refine q_RT_seg (g2 := (1, [(0, .ref 87), (1, .int a1)], [.int a1], (q_kN s c n))) 1 (fun _ _ => rfl) ?_
  cases h1 : decide (a1 < 0) with
  | true =>
    refine q_RT_cT ?_
    refine q_RT_st1 (g2 := (52, [(0, .ref 87), (1, .int a1)], [], (q_kN s c n))) rfl (if_pos (Or.inl (Int32.lt_iff_toInt_lt.mp (of_decide_eq_true h1)))) ?_
    refine q_RT_seg (g2 := (56, [(0, .ref 87), (1, .int a1)], [.int (s.2.1 23 4)], (q_kN s c n))) 2 (fun _ _ => rfl) ?_
    exact q_RT_ret rfl rfl rfl
  | false =>
    refine q_RT_cF ?_
    cases h2 : decide (3 < a1) with
    | true =>
      refine q_RT_cT ?_
      refine q_RT_st1 (g2 := (52, [(0, .ref 87), (1, .int a1)], [], (q_kN s c n))) rfl (if_pos (Or.inr (Int32.lt_iff_toInt_lt.mp (of_decide_eq_true h2)))) ?_
      refine q_RT_seg (g2 := (56, [(0, .ref 87), (1, .int a1)], [.int (s.2.1 23 4)], (q_kN s c n))) 2 (fun _ _ => rfl) ?_
      exact q_RT_ret rfl rfl rfl
    | false =>
      refine q_RT_cF ?_
      cases h3 : decide (a1 = 0) with
      | true =>
        refine q_RT_cT ?_
        refine q_RT_st1 (g2 := (32, [(0, .ref 87), (1, .int a1)], [], (q_kN s c n))) rfl (by rw [of_decide_eq_true h3]; rfl) ?_
        refine q_RT_seg (g2 := (36, [(0, .ref 87), (1, .int a1)], [.int (s.2.1 23 0)], (q_kN s c n))) 2 (fun _ _ => rfl) ?_
        exact q_RT_ret rfl rfl rfl
      | false =>
        refine q_RT_cF ?_
        cases h4 : decide (a1 = 1) with
        | true =>
          refine q_RT_cT ?_
          refine q_RT_st1 (g2 := (37, [(0, .ref 87), (1, .int a1)], [], (q_kN s c n))) rfl (by rw [of_decide_eq_true h4]; rfl) ?_
          refine q_RT_seg (g2 := (41, [(0, .ref 87), (1, .int a1)], [.int (s.2.1 23 1)], (q_kN s c n))) 2 (fun _ _ => rfl) ?_
          exact q_RT_ret rfl rfl rfl
        | false =>
          refine q_RT_cF ?_
          cases h5 : decide (a1 = 2) with
          | true =>
            refine q_RT_cT ?_
            refine q_RT_st1 (g2 := (42, [(0, .ref 87), (1, .int a1)], [], (q_kN s c n))) rfl (by rw [of_decide_eq_true h5]; rfl) ?_
            refine q_RT_seg (g2 := (46, [(0, .ref 87), (1, .int a1)], [.int (s.2.1 23 2)], (q_kN s c n))) 2 (fun _ _ => rfl) ?_
            exact q_RT_ret rfl rfl rfl
          | false =>
            refine q_RT_cF ?_
            have h6 : a1 = 3 := Int32.toInt_inj.mp (by have e0 := q_neI h3 (n := 0); have e1 := q_neI h4 (n := 1); have e2 := q_neI h5 (n := 2); have l1 : 0 ≤ (a1).toInt := q_lo1 h1; have l2 : (a1).toInt ≤ 3 := q_hi2 h2; show (a1).toInt = 3; omega)
            refine q_RT_st1 (g2 := (47, [(0, .ref 87), (1, .int a1)], [], (q_kN s c n))) rfl (by rw [h6]; rfl) ?_
            refine q_RT_seg (g2 := (51, [(0, .ref 87), (1, .int a1)], [.int (s.2.1 23 3)], (q_kN s c n))) 2 (fun _ _ => rfl) ?_
            exact q_RT_ret rfl rfl rfl
def dz_N134_87 (s : q_S) (a1 : Int32) (a2 : Int32) : q_S × Int32 :=
  q_let (dz_N133_87 s a1) fun r1 => cond (decide (a1 < 0)) (((q_sI s 23 4 a2), r1)) (cond (decide (3 < a1)) (((q_sI s 23 4 a2), r1)) (cond (decide (a1 = 0)) (((q_sI s 23 0 a2), r1)) (cond (decide (a1 = 1)) (((q_sI s 23 1 a2), r1)) (cond (decide (a1 = 2)) (((q_sI s 23 2 a2), r1)) (((q_sI s 23 3 a2), r1))))))
set_option maxHeartbeats 4000000 in
theorem dzt_N134_87 (s : q_S) (c n : Nat) (a1 : Int32) (a2 : Int32) : q_Ca q_TB0 2 133 [.ref 87, .int a1, .int a2] (q_kN s c n) ((q_oIN c n) (dz_N134_87 s a1 a2)) := by
  refine q_CaT_of (φ := (q_oIN c n)) (Nat.le_of_ble_eq_true rfl) ?_
  unfold dz_N134_87
  refine q_RT_seg (g2 := (2, [(0, .ref 87), (1, .int a1), (2, .int a2)], [.int a1, .ref 87], (q_kN s c n))) 2 (fun _ _ => rfl) ?_
  refine q_RT_call (v := (some (.int (dz_N133_87 s a1)))) (h2 := (q_kN s c n)) rfl rfl ((dzt_N133_87 s c n a1).le (Nat.le_of_ble_eq_true rfl)) ?_
  generalize dz_N133_87 s a1 = r1
  refine q_RT_let ?_
  show q_RT _ _ _ (5, [(0, .ref 87), (1, .int a1), (2, .int a2)], [.int r1], (q_kN s c n)) _ _
  refine q_RT_seg (g2 := (7, [(3, .int r1), (0, .ref 87), (1, .int a1), (2, .int a2)], [.int a1], (q_kN s c n))) 2 (fun _ _ => rfl) ?_
  cases h1 : decide (a1 < 0) with
  | true =>
    refine q_RT_cT ?_
    refine q_RT_st1 (g2 := (68, [(3, .int r1), (0, .ref 87), (1, .int a1), (2, .int a2)], [], (q_kN s c n))) rfl (if_pos (Or.inl (Int32.lt_iff_toInt_lt.mp (of_decide_eq_true h1)))) ?_
    refine q_RT_seg (g2 := (74, [(3, .int r1), (0, .ref 87), (1, .int a1), (2, .int a2)], [.int r1], (q_kN (q_sI s 23 4 a2) c n))) 4 (fun _ _ => rfl) ?_
    exact q_RT_ret rfl rfl rfl
  | false =>
    refine q_RT_cF ?_
    cases h2 : decide (3 < a1) with
    | true =>
      refine q_RT_cT ?_
      refine q_RT_st1 (g2 := (68, [(3, .int r1), (0, .ref 87), (1, .int a1), (2, .int a2)], [], (q_kN s c n))) rfl (if_pos (Or.inr (Int32.lt_iff_toInt_lt.mp (of_decide_eq_true h2)))) ?_
      refine q_RT_seg (g2 := (74, [(3, .int r1), (0, .ref 87), (1, .int a1), (2, .int a2)], [.int r1], (q_kN (q_sI s 23 4 a2) c n))) 4 (fun _ _ => rfl) ?_
      exact q_RT_ret rfl rfl rfl
    | false =>
      refine q_RT_cF ?_
      cases h3 : decide (a1 = 0) with
      | true =>
        refine q_RT_cT ?_
        refine q_RT_st1 (g2 := (36, [(3, .int r1), (0, .ref 87), (1, .int a1), (2, .int a2)], [], (q_kN s c n))) rfl (by rw [of_decide_eq_true h3]; rfl) ?_
        refine q_RT_seg (g2 := (74, [(3, .int r1), (0, .ref 87), (1, .int a1), (2, .int a2)], [.int r1], (q_kN (q_sI s 23 0 a2) c n))) 5 (fun _ _ => rfl) ?_
        exact q_RT_ret rfl rfl rfl
      | false =>
        refine q_RT_cF ?_
        cases h4 : decide (a1 = 1) with
        | true =>
          refine q_RT_cT ?_
          refine q_RT_st1 (g2 := (44, [(3, .int r1), (0, .ref 87), (1, .int a1), (2, .int a2)], [], (q_kN s c n))) rfl (by rw [of_decide_eq_true h4]; rfl) ?_
          refine q_RT_seg (g2 := (74, [(3, .int r1), (0, .ref 87), (1, .int a1), (2, .int a2)], [.int r1], (q_kN (q_sI s 23 1 a2) c n))) 5 (fun _ _ => rfl) ?_
          exact q_RT_ret rfl rfl rfl
        | false =>
          refine q_RT_cF ?_
          cases h5 : decide (a1 = 2) with
          | true =>
            refine q_RT_cT ?_
            refine q_RT_st1 (g2 := (52, [(3, .int r1), (0, .ref 87), (1, .int a1), (2, .int a2)], [], (q_kN s c n))) rfl (by rw [of_decide_eq_true h5]; rfl) ?_
            refine q_RT_seg (g2 := (74, [(3, .int r1), (0, .ref 87), (1, .int a1), (2, .int a2)], [.int r1], (q_kN (q_sI s 23 2 a2) c n))) 5 (fun _ _ => rfl) ?_
            exact q_RT_ret rfl rfl rfl
          | false =>
            refine q_RT_cF ?_
            have h6 : a1 = 3 := Int32.toInt_inj.mp (by have e0 := q_neI h3 (n := 0); have e1 := q_neI h4 (n := 1); have e2 := q_neI h5 (n := 2); have l1 : 0 ≤ (a1).toInt := q_lo1 h1; have l2 : (a1).toInt ≤ 3 := q_hi2 h2; show (a1).toInt = 3; omega)
            refine q_RT_st1 (g2 := (60, [(3, .int r1), (0, .ref 87), (1, .int a1), (2, .int a2)], [], (q_kN s c n))) rfl (by rw [h6]; rfl) ?_
            refine q_RT_seg (g2 := (74, [(3, .int r1), (0, .ref 87), (1, .int a1), (2, .int a2)], [.int r1], (q_kN (q_sI s 23 3 a2) c n))) 5 (fun _ _ => rfl) ?_
            exact q_RT_ret rfl rfl rfl
def dz_N317_68_5 (m : Nat) : q_S → Int32 → Int32 → Int32 → Option (q_S) := Nat.rec (motive := fun _ => q_S → Int32 → Int32 → Int32 → Option (q_S)) (fun _ _ _ _ => none) (fun _ k5 s v1 v2 v3 =>
  cond (decide (v2 < v3)) (cond (q_in v2 48) (k5 (q_sA s 4 (upd (s.1 4) (v2.toNatClampNeg) v1)) v1 (v2 + 1) v3) none) (some s)) m
theorem dzs_N317_68_5 (m : Nat) (s : q_S) (v1 : Int32) (v2 : Int32) (v3 : Int32) : dz_N317_68_5 (m + 1) s v1 v2 v3 = (fun k5 : q_S → Int32 → Int32 → Int32 → Option (q_S) =>
  cond (decide (v2 < v3)) (cond (q_in v2 48) (k5 (q_sA s 4 (upd (s.1 4) (v2.toNatClampNeg) v1)) v1 (v2 + 1) v3) none) (some s)) (dz_N317_68_5 m) := rfl
set_option maxHeartbeats 4000000 in
theorem dzt_N317_68_5 (c n : Nat) : ∀ (m : Nat) (s : q_S) (v1 : Int32) (v2 : Int32) (v3 : Int32), q_RP q_TB0 0 316 (5, [(0, .ref 68), (1, .int v1), (2, .int v2), (3, .int v3)], [], (q_kN s c n)) (q_oSN c n) (dz_N317_68_5 m s v1 v2 v3) := by
  intro m
  induction m with
  | zero => intro s v1 v2 v3; exact q_RP_no
  | succ m ih =>
    intro s v1 v2 v3
    have hk5 := ih
    clear ih
    rw [dzs_N317_68_5]
    generalize dz_N317_68_5 m = k5 at hk5 ⊢
    dsimp only
    refine q_RP_seg (g2 := (7, [(0, .ref 68), (1, .int v1), (2, .int v2), (3, .int v3)], [.int v3, .int v2], (q_kN s c n))) 2 (fun _ _ => rfl) ?_
    cases h1 : decide (v2 < v3) with
    | true =>
      refine q_RP_cT ?_
      refine q_RP_rsF (g2 := (10, [(0, .ref 68), (1, .int v1), (2, .int v2), (3, .int v3)], [], (q_kN s c n))) rfl rfl (q_d_geT h1) ?_
      refine q_RP_seg (g2 := (13, [(0, .ref 68), (1, .int v1), (2, .int v2), (3, .int v3)], [.int v1, .int v2, .ref 68], (q_kN s c n))) 3 (fun _ _ => rfl) ?_
      refine q_RP_as fun i2 => ?_
      refine q_RP_rsT (g2 := (14, [(0, .ref 68), (1, .int v1), (2, .int v2), (3, .int v3)], [], (q_kN (q_sA s 4 (upd (s.1 4) (v2.toNatClampNeg) v1)) c n))) rfl rfl i2 ?_
      refine q_RP_seg (g2 := (5, [(2, .int (v2 + 1)), (0, .ref 68), (1, .int v1), (3, .int v3)], [], (q_kN (q_sA s 4 (upd (s.1 4) (v2.toNatClampNeg) v1)) c n))) 2 (fun _ _ => rfl) ?_
      exact q_RP_xt (q_xt_mk (q_mn1 1 rfl (q_mn1 2 rfl (q_mn1 0 rfl (q_mn1 3 rfl q_mn0)))) rfl) (hk5 (q_sA s 4 (upd (s.1 4) (v2.toNatClampNeg) v1)) v1 (v2 + 1) v3)
    | false =>
      refine q_RP_cF ?_
      refine q_RP_rsT (g2 := (20, [(0, .ref 68), (1, .int v1), (2, .int v2), (3, .int v3)], [], (q_kN s c n))) rfl rfl (q_d_geF h1) ?_
      exact q_RP_ret rfl rfl rfl
def dz_N317_68 (s : q_S) (a1 : Int32) : Option (q_S) :=
  dz_N317_68_5 5000 s a1 0 48
set_option maxHeartbeats 4000000 in
theorem dzt_N317_68 (s : q_S) (c n : Nat) (a1 : Int32) (x : q_S) (h : dz_N317_68 s a1 = some x) : q_Ca q_TB0 1 316 [.ref 68, .int a1] (q_kN s c n) ((q_oSN c n) x) := by
  refine q_CaP_of (φ := (q_oSN c n)) (Nat.le_of_ble_eq_true rfl) ?_ h
  clear h
  unfold dz_N317_68
  refine q_RP_seg (g2 := (5, [(3, .int 48), (2, .int 0), (0, .ref 68), (1, .int a1)], [], (q_kN s c n))) 5 (fun _ _ => rfl) ?_
  exact q_RP_xt (q_xt_mk (q_mn1 2 rfl (q_mn1 3 rfl (q_mn1 1 rfl (q_mn1 0 rfl q_mn0)))) rfl) (dzt_N317_68_5 c n 5000 s a1 0 48)
def dz_N113_66 (s : q_S) : Option (q_S) :=
  (dz_N317_68 s 0).bind fun r2 => some r2
set_option maxHeartbeats 4000000 in
theorem dzt_N113_66 (s : q_S) (c n : Nat) (x : q_S) (h : dz_N113_66 s = some x) : q_Ca q_TB0 2 112 [.ref 66] (q_kN s c n) ((q_oSN c n) x) := by
  refine q_CaP_of (φ := (q_oSN c n)) (Nat.le_of_ble_eq_true rfl) ?_ h
  clear h
  unfold dz_N113_66
  refine q_RP_seg (g2 := (5, [(0, .ref 66)], [.int 0, .ref 68], (q_kN s c n))) 3 (fun _ _ => rfl) ?_
  refine q_RP_bd fun r2 er2 => ?_
  refine q_RP_call (v := none) (h2 := (q_kN r2 c n)) rfl rfl ((dzt_N317_68 s c n 0 r2 er2).le (Nat.le_of_ble_eq_true rfl)) ?_
  show q_RP _ _ _ (8, [(0, .ref 66)], [], (q_kN r2 c n)) _ _
  exact q_RP_ret rfl rfl rfl
def dz_N317_71_5 (m : Nat) : q_S → Int32 → Int32 → Int32 → Option (q_S) := Nat.rec (motive := fun _ => q_S → Int32 → Int32 → Int32 → Option (q_S)) (fun _ _ _ _ => none) (fun _ k5 s v1 v2 v3 =>
  cond (decide (v2 < v3)) (cond (q_in v2 2) (k5 (q_sA s 7 (upd (s.1 7) (v2.toNatClampNeg) v1)) v1 (v2 + 1) v3) none) (some s)) m
theorem dzs_N317_71_5 (m : Nat) (s : q_S) (v1 : Int32) (v2 : Int32) (v3 : Int32) : dz_N317_71_5 (m + 1) s v1 v2 v3 = (fun k5 : q_S → Int32 → Int32 → Int32 → Option (q_S) =>
  cond (decide (v2 < v3)) (cond (q_in v2 2) (k5 (q_sA s 7 (upd (s.1 7) (v2.toNatClampNeg) v1)) v1 (v2 + 1) v3) none) (some s)) (dz_N317_71_5 m) := rfl
set_option maxHeartbeats 4000000 in
theorem dzt_N317_71_5 (c n : Nat) : ∀ (m : Nat) (s : q_S) (v1 : Int32) (v2 : Int32) (v3 : Int32), q_RP q_TB0 0 316 (5, [(0, .ref 71), (1, .int v1), (2, .int v2), (3, .int v3)], [], (q_kN s c n)) (q_oSN c n) (dz_N317_71_5 m s v1 v2 v3) := by
  intro m
  induction m with
  | zero => intro s v1 v2 v3; exact q_RP_no
  | succ m ih =>
    intro s v1 v2 v3
    have hk5 := ih
    clear ih
    rw [dzs_N317_71_5]
    generalize dz_N317_71_5 m = k5 at hk5 ⊢
    dsimp only
    refine q_RP_seg (g2 := (7, [(0, .ref 71), (1, .int v1), (2, .int v2), (3, .int v3)], [.int v3, .int v2], (q_kN s c n))) 2 (fun _ _ => rfl) ?_
    cases h1 : decide (v2 < v3) with
    | true =>
      refine q_RP_cT ?_
      refine q_RP_rsF (g2 := (10, [(0, .ref 71), (1, .int v1), (2, .int v2), (3, .int v3)], [], (q_kN s c n))) rfl rfl (q_d_geT h1) ?_
      refine q_RP_seg (g2 := (13, [(0, .ref 71), (1, .int v1), (2, .int v2), (3, .int v3)], [.int v1, .int v2, .ref 71], (q_kN s c n))) 3 (fun _ _ => rfl) ?_
      refine q_RP_as fun i2 => ?_
      refine q_RP_rsT (g2 := (14, [(0, .ref 71), (1, .int v1), (2, .int v2), (3, .int v3)], [], (q_kN (q_sA s 7 (upd (s.1 7) (v2.toNatClampNeg) v1)) c n))) rfl rfl i2 ?_
      refine q_RP_seg (g2 := (5, [(2, .int (v2 + 1)), (0, .ref 71), (1, .int v1), (3, .int v3)], [], (q_kN (q_sA s 7 (upd (s.1 7) (v2.toNatClampNeg) v1)) c n))) 2 (fun _ _ => rfl) ?_
      exact q_RP_xt (q_xt_mk (q_mn1 1 rfl (q_mn1 2 rfl (q_mn1 0 rfl (q_mn1 3 rfl q_mn0)))) rfl) (hk5 (q_sA s 7 (upd (s.1 7) (v2.toNatClampNeg) v1)) v1 (v2 + 1) v3)
    | false =>
      refine q_RP_cF ?_
      refine q_RP_rsT (g2 := (20, [(0, .ref 71), (1, .int v1), (2, .int v2), (3, .int v3)], [], (q_kN s c n))) rfl rfl (q_d_geF h1) ?_
      exact q_RP_ret rfl rfl rfl
def dz_N317_71 (s : q_S) (a1 : Int32) : Option (q_S) :=
  dz_N317_71_5 5000 s a1 0 2
set_option maxHeartbeats 4000000 in
theorem dzt_N317_71 (s : q_S) (c n : Nat) (a1 : Int32) (x : q_S) (h : dz_N317_71 s a1 = some x) : q_Ca q_TB0 1 316 [.ref 71, .int a1] (q_kN s c n) ((q_oSN c n) x) := by
  refine q_CaP_of (φ := (q_oSN c n)) (Nat.le_of_ble_eq_true rfl) ?_ h
  clear h
  unfold dz_N317_71
  refine q_RP_seg (g2 := (5, [(3, .int 2), (2, .int 0), (0, .ref 71), (1, .int a1)], [], (q_kN s c n))) 5 (fun _ _ => rfl) ?_
  exact q_RP_xt (q_xt_mk (q_mn1 2 rfl (q_mn1 3 rfl (q_mn1 1 rfl (q_mn1 0 rfl q_mn0)))) rfl) (dzt_N317_71_5 c n 5000 s a1 0 2)
def dz_N96_65 (s : q_S) : Option (q_S) :=
  (dz_N113_66 s).bind fun r2 => cond (decide (lg_cmp (((r2.2.2 1 8) / 960) - ((r2.2.2 1 8) / 960) / 2 * 2) 0 = 0)) (q_let (dz_N128_77 r2 4096 0) fun r3 => (dz_N317_71 r3 0).bind fun r4 => some r4) (q_let (dz_N128_82 r2 4096 0) fun r5 => (dz_N317_71 r5 0).bind fun r6 => some r6)
set_option maxHeartbeats 4000000 in
theorem dzt_N96_65 (s : q_S) (c n : Nat) (x : q_S) (h : dz_N96_65 s = some x) : q_Ca q_TB0 3 95 [.ref 65] (q_kN s c n) ((q_oSN c n) x) := by
  refine q_CaP_of (φ := (q_oSN c n)) (Nat.le_of_ble_eq_true rfl) ?_ h
  clear h
  unfold dz_N96_65
  refine q_RP_seg (g2 := (4, [(0, .ref 65)], [.ref 66], (q_kN s c n))) 2 (fun _ _ => rfl) ?_
  refine q_RP_bd fun r2 er2 => ?_
  refine q_RP_call (v := none) (h2 := (q_kN r2 c n)) rfl rfl ((dzt_N113_66 s c n r2 er2).le (Nat.le_of_ble_eq_true rfl)) ?_
  show q_RP _ _ _ (7, [(0, .ref 65)], [], (q_kN r2 c n)) _ _
  refine q_RP_seg (g2 := (8, [(0, .ref 65)], [.ref 65], (q_kN r2 c n))) 1 (fun _ _ => rfl) ?_
  cases h1 : decide (lg_cmp (((r2.2.2 1 8) / 960) - ((r2.2.2 1 8) / 960) / 2 * 2) 0 = 0) with
  | true =>
    refine q_RP_cT ?_
    refine q_RP_call (v := (some (.ref 77))) (h2 := (q_kN r2 c n)) rfl rfl ?_ ?_
    · refine q_Ca_of (Nat.le_of_ble_eq_true rfl) ?_
      refine q_Ru_seg (g2 := (14, [(0, .ref 65)], [.int (lg_cmp (((r2.2.2 1 8) / 960) - ((r2.2.2 1 8) / 960) / 2 * 2) 0)], (q_kN r2 c n))) 8 (fun _ _ => rfl) ?_
      refine q_Ru_rsF (g2 := (17, [(0, .ref 65)], [], (q_kN r2 c n))) rfl rfl (q_d_neT h1) ?_
      refine q_Ru_seg (g2 := (28, [(0, .ref 65)], [.ref 77], (q_kN r2 c n))) 3 (fun _ _ => rfl) ?_
      exact q_Ru_ret rfl rfl
    show q_RP _ _ _ (11, [(0, .ref 65)], [.ref 77], (q_kN r2 c n)) _ _
    refine q_RP_seg (g2 := (15, [(0, .ref 65)], [.int 0, .int 4096, .ref 77], (q_kN r2 c n))) 2 (fun _ _ => rfl) ?_
    refine q_RP_call (v := none) (h2 := (q_kN (dz_N128_77 r2 4096 0) c n)) rfl rfl ((dzt_N128_77 r2 c n 4096 0).le (Nat.le_of_ble_eq_true rfl)) ?_
    generalize dz_N128_77 r2 4096 0 = r3
    refine q_RP_let ?_
    show q_RP _ _ _ (18, [(0, .ref 65)], [], (q_kN r3 c n)) _ _
    refine q_RP_seg (g2 := (23, [(0, .ref 65)], [.int 0, .ref 71], (q_kN r3 c n))) 3 (fun _ _ => rfl) ?_
    refine q_RP_bd fun r4 er4 => ?_
    refine q_RP_call (v := none) (h2 := (q_kN r4 c n)) rfl rfl ((dzt_N317_71 r3 c n 0 r4 er4).le (Nat.le_of_ble_eq_true rfl)) ?_
    show q_RP _ _ _ (26, [(0, .ref 65)], [], (q_kN r4 c n)) _ _
    exact q_RP_ret rfl rfl rfl
  | false =>
    refine q_RP_cF ?_
    refine q_RP_call (v := (some (.ref 82))) (h2 := (q_kN r2 c n)) rfl rfl ?_ ?_
    · refine q_Ca_of (Nat.le_of_ble_eq_true rfl) ?_
      refine q_Ru_seg (g2 := (14, [(0, .ref 65)], [.int (lg_cmp (((r2.2.2 1 8) / 960) - ((r2.2.2 1 8) / 960) / 2 * 2) 0)], (q_kN r2 c n))) 8 (fun _ _ => rfl) ?_
      refine q_Ru_rsT (g2 := (24, [(0, .ref 65)], [], (q_kN r2 c n))) rfl rfl (q_d_neF h1) ?_
      refine q_Ru_seg (g2 := (28, [(0, .ref 65)], [.ref 82], (q_kN r2 c n))) 2 (fun _ _ => rfl) ?_
      exact q_Ru_ret rfl rfl
    show q_RP _ _ _ (11, [(0, .ref 65)], [.ref 82], (q_kN r2 c n)) _ _
    refine q_RP_seg (g2 := (15, [(0, .ref 65)], [.int 0, .int 4096, .ref 82], (q_kN r2 c n))) 2 (fun _ _ => rfl) ?_
    refine q_RP_call (v := none) (h2 := (q_kN (dz_N128_82 r2 4096 0) c n)) rfl rfl ((dzt_N128_82 r2 c n 4096 0).le (Nat.le_of_ble_eq_true rfl)) ?_
    generalize dz_N128_82 r2 4096 0 = r5
    refine q_RP_let ?_
    show q_RP _ _ _ (18, [(0, .ref 65)], [], (q_kN r5 c n)) _ _
    refine q_RP_seg (g2 := (23, [(0, .ref 65)], [.int 0, .ref 71], (q_kN r5 c n))) 3 (fun _ _ => rfl) ?_
    refine q_RP_bd fun r6 er6 => ?_
    refine q_RP_call (v := none) (h2 := (q_kN r6 c n)) rfl rfl ((dzt_N317_71 r5 c n 0 r6 er6).le (Nat.le_of_ble_eq_true rfl)) ?_
    show q_RP _ _ _ (26, [(0, .ref 65)], [], (q_kN r6 c n)) _ _
    exact q_RP_ret rfl rfl rfl
def dz_N92_65 (s : q_S) (a1 : Int32) : Option (Int32) :=
  (dz_N90_65 s (a1 &&& 4095)).bind fun r2 => (dz_N90_65 s ((a1 + 1) &&& 4095)).bind fun r3 => some ((r2 + (256 * r3)) &&& 4095)
set_option maxHeartbeats 4000000 in
theorem dzt_N92_65 (s : q_S) (c n : Nat) (a1 : Int32) (x : Int32) (h : dz_N92_65 s a1 = some x) : q_Ca q_TB0 3 91 [.ref 65, .int a1] (q_kN s c n) ((q_oP (q_kN s c n)) x) := by
  refine q_CaP_of (φ := (q_oP (q_kN s c n))) (Nat.le_of_ble_eq_true rfl) ?_ h
  clear h
  unfold dz_N92_65
  refine q_RP_seg (g2 := (6, [(0, .ref 65), (1, .int a1)], [.int (a1 &&& 4095), .ref 65], (q_kN s c n))) 4 (fun _ _ => rfl) ?_
  refine q_RP_bd fun r2 er2 => ?_
  refine q_RP_call (v := (some (.int r2))) (h2 := (q_kN s c n)) rfl rfl ((dzt_N90_65 s c n (a1 &&& 4095) r2 er2).le (Nat.le_of_ble_eq_true rfl)) ?_
  show q_RP _ _ _ (9, [(0, .ref 65), (1, .int a1)], [.int r2], (q_kN s c n)) _ _
  refine q_RP_seg (g2 := (22, [(2, .int r2), (0, .ref 65), (1, .int a1)], [.int ((a1 + 1) &&& 4095), .ref 65, .int 256, .int r2], (q_kN s c n))) 9 (fun _ _ => rfl) ?_
  refine q_RP_bd fun r3 er3 => ?_
  refine q_RP_call (v := (some (.int r3))) (h2 := (q_kN s c n)) rfl rfl ((dzt_N90_65 s c n ((a1 + 1) &&& 4095) r3 er3).le (Nat.le_of_ble_eq_true rfl)) ?_
  show q_RP _ _ _ (25, [(2, .int r2), (0, .ref 65), (1, .int a1)], [.int r3, .int 256, .int r2], (q_kN s c n)) _ _
  refine q_RP_seg (g2 := (31, [(2, .int r2), (0, .ref 65), (1, .int a1)], [.int ((r2 + (256 * r3)) &&& 4095)], (q_kN s c n))) 4 (fun _ _ => rfl) ?_
  exact q_RP_ret rfl rfl rfl
def dz_N135_87_65 (s : q_S) : Option (q_S) :=
  (dz_N92_65 (q_sI (q_sI (q_sI (q_sI (q_sI (q_sI (q_sI (q_sI s 23 0 0) 23 1 0) 23 2 0) 23 3 255) 23 5 4) 23 6 0) 23 7 0) 23 9 0) 3836).bind fun r2 => some (q_sI (q_sI (q_sI (q_sI (q_sI (q_sI (q_sI (q_sI (q_sI s 23 0 0) 23 1 0) 23 2 0) 23 3 255) 23 5 4) 23 6 0) 23 7 0) 23 9 0) 23 4 r2)
set_option maxHeartbeats 4000000 in
theorem dzt_N135_87_65 (s : q_S) (c n : Nat) (x : q_S) (h : dz_N135_87_65 s = some x) : q_Ca q_TB0 4 134 [.ref 87, .ref 65] (q_kN s c n) ((q_oSN c n) x) := by
  refine q_CaP_of (φ := (q_oSN c n)) (Nat.le_of_ble_eq_true rfl) ?_ h
  clear h
  unfold dz_N135_87_65
  refine q_RP_seg (g2 := (47, [(0, .ref 87), (1, .ref 65)], [.int 3836, .ref 65, .ref 87], (q_kN (q_sI (q_sI (q_sI (q_sI (q_sI (q_sI (q_sI (q_sI s 23 0 0) 23 1 0) 23 2 0) 23 3 255) 23 5 4) 23 6 0) 23 7 0) 23 9 0) c n))) 27 (fun _ _ => rfl) ?_
  refine q_RP_bd fun r2 er2 => ?_
  refine q_RP_call (v := (some (.int r2))) (h2 := (q_kN (q_sI (q_sI (q_sI (q_sI (q_sI (q_sI (q_sI (q_sI s 23 0 0) 23 1 0) 23 2 0) 23 3 255) 23 5 4) 23 6 0) 23 7 0) 23 9 0) c n)) rfl rfl ((dzt_N92_65 (q_sI (q_sI (q_sI (q_sI (q_sI (q_sI (q_sI (q_sI s 23 0 0) 23 1 0) 23 2 0) 23 3 255) 23 5 4) 23 6 0) 23 7 0) 23 9 0) c n 3836 r2 er2).le (Nat.le_of_ble_eq_true rfl)) ?_
  show q_RP _ _ _ (50, [(0, .ref 87), (1, .ref 65)], [.int r2, .ref 87], (q_kN (q_sI (q_sI (q_sI (q_sI (q_sI (q_sI (q_sI (q_sI s 23 0 0) 23 1 0) 23 2 0) 23 3 255) 23 5 4) 23 6 0) 23 7 0) 23 9 0) c n)) _ _
  refine q_RP_seg (g2 := (53, [(0, .ref 87), (1, .ref 65)], [], (q_kN (q_sI (q_sI (q_sI (q_sI (q_sI (q_sI (q_sI (q_sI (q_sI s 23 0 0) 23 1 0) 23 2 0) 23 3 255) 23 5 4) 23 6 0) 23 7 0) 23 9 0) 23 4 r2) c n))) 1 (fun _ _ => rfl) ?_
  exact q_RP_ret rfl rfl rfl
def dz_N80_64 (s : q_S) : Option (q_S × Int32) :=
  (dz_N96_65 s).bind fun r2 => (dz_N135_87_65 r2).bind fun r3 => some (r3, (r3.2.1 23 4))
set_option maxHeartbeats 4000000 in
theorem dzt_N80_64 (s : q_S) (c n : Nat) (x : q_S × Int32) (h : dz_N80_64 s = some x) : q_Ca q_TB0 5 79 [.ref 64] (q_kN s c n) ((q_oIN c n) x) := by
  refine q_CaP_of (φ := (q_oIN c n)) (Nat.le_of_ble_eq_true rfl) ?_ h
  clear h
  unfold dz_N80_64
  refine q_RP_seg (g2 := (4, [(0, .ref 64)], [.ref 65], (q_kN s c n))) 2 (fun _ _ => rfl) ?_
  refine q_RP_bd fun r2 er2 => ?_
  refine q_RP_call (v := none) (h2 := (q_kN r2 c n)) rfl rfl ((dzt_N96_65 s c n r2 er2).le (Nat.le_of_ble_eq_true rfl)) ?_
  show q_RP _ _ _ (7, [(0, .ref 64)], [], (q_kN r2 c n)) _ _
  refine q_RP_seg (g2 := (15, [(0, .ref 64)], [.ref 65, .ref 87], (q_kN r2 c n))) 4 (fun _ _ => rfl) ?_
  refine q_RP_bd fun r3 er3 => ?_
  refine q_RP_call (v := none) (h2 := (q_kN r3 c n)) rfl rfl ((dzt_N135_87_65 r2 c n r3 er3).le (Nat.le_of_ble_eq_true rfl)) ?_
  show q_RP _ _ _ (18, [(0, .ref 64)], [], (q_kN r3 c n)) _ _
  refine q_RP_seg (g2 := (25, [(0, .ref 64)], [.int (r3.2.1 23 4)], (q_kN r3 c n))) 3 (fun _ _ => rfl) ?_
  exact q_RP_ret rfl rfl rfl
def dz_N81_64 (s : q_S) : Option (q_S × Int32) :=
  (dz_N94_65 s 3840 (((s.1 4) 0) ||| 14)).bind fun r2 => some ((q_sI r2 23 6 1), ((s.1 4) 0))
set_option maxHeartbeats 4000000 in
theorem dzt_N81_64 (s : q_S) (c n : Nat) (x : q_S × Int32) (h : dz_N81_64 s = some x) : q_Ca q_TB0 3 80 [.ref 64] (q_kN s c n) ((q_oIN c n) x) := by
  refine q_CaP_of (φ := (q_oIN c n)) (Nat.le_of_ble_eq_true rfl) ?_ h
  clear h
  unfold dz_N81_64
  refine q_RP_seg (g2 := (12, [(0, .ref 64)], [.int ((s.1 4) 0)], (q_kN s c n))) 6 (fun _ _ => rfl) ?_
  refine q_RP_seg (g2 := (24, [(1, .int ((s.1 4) 0)), (0, .ref 64)], [.int (((s.1 4) 0) ||| 14), .int 3840, .ref 65], (q_kN s c n))) 7 (fun _ _ => rfl) ?_
  refine q_RP_bd fun r2 er2 => ?_
  refine q_RP_call (v := none) (h2 := (q_kN r2 c n)) rfl rfl ((dzt_N94_65 s c n 3840 (((s.1 4) 0) ||| 14) r2 er2).le (Nat.le_of_ble_eq_true rfl)) ?_
  show q_RP _ _ _ (27, [(1, .int ((s.1 4) 0)), (0, .ref 64)], [], (q_kN r2 c n)) _ _
  refine q_RP_seg (g2 := (36, [(1, .int ((s.1 4) 0)), (0, .ref 64)], [.int ((s.1 4) 0)], (q_kN (q_sI r2 23 6 1) c n))) 5 (fun _ _ => rfl) ?_
  exact q_RP_ret rfl rfl rfl
def dz_N87_65 (s : q_S) : Int32 :=
  (((s.2.2 1 8) - (s.2.2 1 8) / 24 * 24).toInt32)
set_option maxHeartbeats 4000000 in
theorem dzt_N87_65 (s : q_S) (c n : Nat) : q_Ca q_TB0 1 86 [.ref 65] (q_kN s c n) ((q_oP (q_kN s c n)) (dz_N87_65 s)) := by
  refine q_CaT_of (φ := (q_oP (q_kN s c n))) (Nat.le_of_ble_eq_true rfl) ?_
  unfold dz_N87_65
  refine q_RT_seg (g2 := (4, [(0, .ref 65)], [.long (s.2.2 1 8)], (q_kN s c n))) 2 (fun _ _ => rfl) ?_
  refine q_RT_seg (g2 := (9, [(0, .ref 65)], [.int (((s.2.2 1 8) - (s.2.2 1 8) / 24 * 24).toInt32)], (q_kN s c n))) 3 (fun _ _ => rfl) ?_
  exact q_RT_ret rfl rfl rfl
def dz_N86_65 (s : q_S) : Int32 :=
  (((s.2.2 1 8) - (s.2.2 1 8) / 960 * 960).toInt32)
set_option maxHeartbeats 4000000 in
theorem dzt_N86_65 (s : q_S) (c n : Nat) : q_Ca q_TB0 1 85 [.ref 65] (q_kN s c n) ((q_oP (q_kN s c n)) (dz_N86_65 s)) := by
  refine q_CaT_of (φ := (q_oP (q_kN s c n))) (Nat.le_of_ble_eq_true rfl) ?_
  unfold dz_N86_65
  refine q_RT_seg (g2 := (4, [(0, .ref 65)], [.long (s.2.2 1 8)], (q_kN s c n))) 2 (fun _ _ => rfl) ?_
  refine q_RT_seg (g2 := (9, [(0, .ref 65)], [.int (((s.2.2 1 8) - (s.2.2 1 8) / 960 * 960).toInt32)], (q_kN s c n))) 3 (fun _ _ => rfl) ?_
  exact q_RT_ret rfl rfl rfl
def dz_N101_65 (s : q_S) : q_S :=
  q_let (dz_N87_65 s) fun r1 => cond (decide (r1 = 0)) (q_let (dz_N86_65 s) fun r2 => cond (decide (r2 / 24 = (s.1 4) 9)) ((q_sA s 4 (upd (s.1 4) 10 (((s.1 4) 10) ||| 1)))) (s)) (s)
set_option maxHeartbeats 4000000 in
theorem dzt_N101_65 (s : q_S) (c n : Nat) : q_Ca q_TB0 2 100 [.ref 65] (q_kN s c n) ((q_oSN c n) (dz_N101_65 s)) := by
  refine q_CaT_of (φ := (q_oSN c n)) (Nat.le_of_ble_eq_true rfl) ?_
  unfold dz_N101_65
  refine q_RT_seg (g2 := (1, [(0, .ref 65)], [.ref 65], (q_kN s c n))) 1 (fun _ _ => rfl) ?_
  refine q_RT_call (v := (some (.int (dz_N87_65 s)))) (h2 := (q_kN s c n)) rfl rfl ((dzt_N87_65 s c n).le (Nat.le_of_ble_eq_true rfl)) ?_
  generalize dz_N87_65 s = r1
  refine q_RT_let ?_
  show q_RT _ _ _ (4, [(0, .ref 65)], [.int r1], (q_kN s c n)) _ _
  cases h1 : decide (r1 = 0) with
  | true =>
    refine q_RT_cT ?_
    refine q_RT_rsF (g2 := (7, [(0, .ref 65)], [], (q_kN s c n))) rfl rfl (q_d_neT h1) ?_
    refine q_RT_seg (g2 := (8, [(0, .ref 65)], [.ref 65], (q_kN s c n))) 1 (fun _ _ => rfl) ?_
    refine q_RT_call (v := (some (.int (dz_N86_65 s)))) (h2 := (q_kN s c n)) rfl rfl ((dzt_N86_65 s c n).le (Nat.le_of_ble_eq_true rfl)) ?_
    generalize dz_N86_65 s = r2
    refine q_RT_let ?_
    show q_RT _ _ _ (11, [(0, .ref 65)], [.int r2], (q_kN s c n)) _ _
    refine q_RT_seg (g2 := (24, [(0, .ref 65)], [.int ((s.1 4) 9), .int (r2 / 24)], (q_kN s c n))) 7 (fun _ _ => rfl) ?_
    cases h2 : decide (r2 / 24 = (s.1 4) 9) with
    | true =>
      refine q_RT_cT ?_
      refine q_RT_rsF (g2 := (27, [(0, .ref 65)], [], (q_kN s c n))) rfl rfl (q_d_neT h2) ?_
      refine q_RT_seg (g2 := (38, [(0, .ref 65)], [.int ((s.1 4) 10), .int 10, .ref 68], (q_kN s c n))) 6 (fun _ _ => rfl) ?_
      refine q_RT_seg (g2 := (41, [(0, .ref 65)], [], (q_kN (q_sA s 4 (upd (s.1 4) 10 (((s.1 4) 10) ||| 1))) c n))) 3 (fun _ _ => rfl) ?_
      exact q_RT_ret rfl rfl rfl
    | false =>
      refine q_RT_cF ?_
      refine q_RT_rsT (g2 := (41, [(0, .ref 65)], [], (q_kN s c n))) rfl rfl (q_d_neF h2) ?_
      exact q_RT_ret rfl rfl rfl
  | false =>
    refine q_RT_cF ?_
    refine q_RT_rsT (g2 := (41, [(0, .ref 65)], [], (q_kN s c n))) rfl rfl (q_d_neF h1) ?_
    exact q_RT_ret rfl rfl rfl
def dz_N115_66 (s : q_S) : Int32 :=
  (((s.1 4) 2) >>> ((2 &&& 31) : Int32))
set_option maxHeartbeats 4000000 in
theorem dzt_N115_66 (s : q_S) (c n : Nat) : q_Ca q_TB0 1 114 [.ref 66] (q_kN s c n) ((q_oP (q_kN s c n)) (dz_N115_66 s)) := by
  refine q_CaT_of (φ := (q_oP (q_kN s c n))) (Nat.le_of_ble_eq_true rfl) ?_
  unfold dz_N115_66
  refine q_RT_seg (g2 := (6, [(0, .ref 66)], [.int ((s.1 4) 2)], (q_kN s c n))) 4 (fun _ _ => rfl) ?_
  refine q_RT_seg (g2 := (8, [(0, .ref 66)], [.int (((s.1 4) 2) >>> ((2 &&& 31) : Int32))], (q_kN s c n))) 2 (fun _ _ => rfl) ?_
  exact q_RT_ret rfl rfl rfl
def dz_N118_66 (s : q_S) (a1 : Int32) (a2 : Int32) : Int32 :=
  cond (decide (a1 < 0)) (0) (cond (decide (a1 < 48)) (((((s.1 4) (a1.toNatClampNeg)) >>> (a2 &&& 31)) &&& 1)) (0))
set_option maxHeartbeats 4000000 in
theorem dzt_N118_66 (s : q_S) (c n : Nat) (a1 : Int32) (a2 : Int32) : q_Ca q_TB0 1 117 [.ref 66, .int a1, .int a2] (q_kN s c n) ((q_oP (q_kN s c n)) (dz_N118_66 s a1 a2)) := by
  refine q_CaT_of (φ := (q_oP (q_kN s c n))) (Nat.le_of_ble_eq_true rfl) ?_
  unfold dz_N118_66
  refine q_RT_seg (g2 := (1, [(0, .ref 66), (1, .int a1), (2, .int a2)], [.int a1], (q_kN s c n))) 1 (fun _ _ => rfl) ?_
  cases h1 : decide (a1 < 0) with
  | true =>
    refine q_RT_cT ?_
    refine q_RT_rsT (g2 := (23, [(0, .ref 66), (1, .int a1), (2, .int a2)], [], (q_kN s c n))) rfl rfl h1 ?_
    refine q_RT_seg (g2 := (24, [(0, .ref 66), (1, .int a1), (2, .int a2)], [.int 0], (q_kN s c n))) 1 (fun _ _ => rfl) ?_
    exact q_RT_ret rfl rfl rfl
  | false =>
    refine q_RT_cF ?_
    refine q_RT_rsF (g2 := (4, [(0, .ref 66), (1, .int a1), (2, .int a2)], [], (q_kN s c n))) rfl rfl h1 ?_
    refine q_RT_seg (g2 := (7, [(0, .ref 66), (1, .int a1), (2, .int a2)], [.int 48, .int a1], (q_kN s c n))) 2 (fun _ _ => rfl) ?_
    cases h2 : decide (a1 < 48) with
    | true =>
      refine q_RT_cT ?_
      refine q_RT_rsF (g2 := (10, [(0, .ref 66), (1, .int a1), (2, .int a2)], [], (q_kN s c n))) rfl rfl (q_d_geT h2) ?_
      refine q_RT_seg (g2 := (15, [(0, .ref 66), (1, .int a1), (2, .int a2)], [.int a1, .ref 68], (q_kN s c n))) 3 (fun _ _ => rfl) ?_
      refine q_RT_rsT (g2 := (16, [(0, .ref 66), (1, .int a1), (2, .int a2)], [.int ((s.1 4) (a1.toNatClampNeg))], (q_kN s c n))) rfl rfl (q_in_bd (x := a1) (n := 48) (U := 47) (L := 0) (q_lo1 h1) (q_hi1 h2)) ?_
      refine q_RT_seg (g2 := (24, [(0, .ref 66), (1, .int a1), (2, .int a2)], [.int ((((s.1 4) (a1.toNatClampNeg)) >>> (a2 &&& 31)) &&& 1)], (q_kN s c n))) 5 (fun _ _ => rfl) ?_
      exact q_RT_ret rfl rfl rfl
    | false =>
      refine q_RT_cF ?_
      refine q_RT_rsT (g2 := (23, [(0, .ref 66), (1, .int a1), (2, .int a2)], [], (q_kN s c n))) rfl rfl (q_d_geF h2) ?_
      refine q_RT_seg (g2 := (24, [(0, .ref 66), (1, .int a1), (2, .int a2)], [.int 0], (q_kN s c n))) 1 (fun _ _ => rfl) ?_
      exact q_RT_ret rfl rfl rfl
def dz_N117_66 (s : q_S) (a1 : Int32) (a2 : Int32) : Option (Bool) :=
  cond (q_in ((24 : Int32) + (a1 &&& 3)) 48) (q_let (dz_N118_66 s 18 (a1 &&& 3)) fun r1 => q_let (dz_N118_66 s 17 (a1 &&& 3)) fun r2 => cond (decide (r2 = 1)) (cond (decide (a2 < (s.1 4) (((24 : Int32) + (a1 &&& 3)).toNatClampNeg))) (some false) (cond (decide (a2 < ((s.1 4) (((24 : Int32) + (a1 &&& 3)).toNatClampNeg)) + ((8 : Int32) <<< (r1 &&& 31)))) (some true) (some false))) (some false)) none
set_option maxHeartbeats 4000000 in
theorem dzt_N117_66 (s : q_S) (c n : Nat) (a1 : Int32) (a2 : Int32) (x : Bool) (h : dz_N117_66 s a1 a2 = some x) : q_Ca q_TB0 2 116 [.ref 66, .int a1, .int a2] (q_kN s c n) ((q_oB (q_kN s c n)) x) := by
  refine q_CaP_of (φ := (q_oB (q_kN s c n))) (Nat.le_of_ble_eq_true rfl) ?_ h
  clear h
  unfold dz_N117_66
  refine q_RP_seg (g2 := (12, [(3, .int (a1 &&& 3)), (0, .ref 66), (1, .int a1), (2, .int a2)], [.int ((24 : Int32) + (a1 &&& 3)), .ref 68], (q_kN s c n))) 9 (fun _ _ => rfl) ?_
  refine q_RP_as fun i1 => ?_
  refine q_RP_rsT (g2 := (13, [(3, .int (a1 &&& 3)), (0, .ref 66), (1, .int a1), (2, .int a2)], [.int ((s.1 4) (((24 : Int32) + (a1 &&& 3)).toNatClampNeg))], (q_kN s c n))) rfl rfl i1 ?_
  refine q_RP_seg (g2 := (21, [(4, .int ((s.1 4) (((24 : Int32) + (a1 &&& 3)).toNatClampNeg))), (3, .int (a1 &&& 3)), (0, .ref 66), (1, .int a1), (2, .int a2)], [.int (a1 &&& 3), .int 18, .ref 66, .int 8], (q_kN s c n))) 5 (fun _ _ => rfl) ?_
  refine q_RP_call (v := (some (.int (dz_N118_66 s 18 (a1 &&& 3))))) (h2 := (q_kN s c n)) rfl rfl ((dzt_N118_66 s c n 18 (a1 &&& 3)).le (Nat.le_of_ble_eq_true rfl)) ?_
  generalize dz_N118_66 s 18 (a1 &&& 3) = r1
  refine q_RP_let ?_
  show q_RP _ _ _ (24, [(4, .int ((s.1 4) (((24 : Int32) + (a1 &&& 3)).toNatClampNeg))), (3, .int (a1 &&& 3)), (0, .ref 66), (1, .int a1), (2, .int a2)], [.int r1, .int 8], (q_kN s c n)) _ _
  refine q_RP_seg (g2 := (31, [(5, .int ((8 : Int32) <<< (r1 &&& 31))), (4, .int ((s.1 4) (((24 : Int32) + (a1 &&& 3)).toNatClampNeg))), (3, .int (a1 &&& 3)), (0, .ref 66), (1, .int a1), (2, .int a2)], [.int (a1 &&& 3), .int 17, .ref 66], (q_kN s c n))) 5 (fun _ _ => rfl) ?_
  refine q_RP_call (v := (some (.int (dz_N118_66 s 17 (a1 &&& 3))))) (h2 := (q_kN s c n)) rfl rfl ((dzt_N118_66 s c n 17 (a1 &&& 3)).le (Nat.le_of_ble_eq_true rfl)) ?_
  generalize dz_N118_66 s 17 (a1 &&& 3) = r2
  refine q_RP_let ?_
  show q_RP _ _ _ (34, [(5, .int ((8 : Int32) <<< (r1 &&& 31))), (4, .int ((s.1 4) (((24 : Int32) + (a1 &&& 3)).toNatClampNeg))), (3, .int (a1 &&& 3)), (0, .ref 66), (1, .int a1), (2, .int a2)], [.int r2], (q_kN s c n)) _ _
  refine q_RP_seg (g2 := (35, [(5, .int ((8 : Int32) <<< (r1 &&& 31))), (4, .int ((s.1 4) (((24 : Int32) + (a1 &&& 3)).toNatClampNeg))), (3, .int (a1 &&& 3)), (0, .ref 66), (1, .int a1), (2, .int a2)], [.int 1, .int r2], (q_kN s c n))) 1 (fun _ _ => rfl) ?_
  cases h2 : decide (r2 = 1) with
  | true =>
    refine q_RP_cT ?_
    refine q_RP_rsF (g2 := (38, [(5, .int ((8 : Int32) <<< (r1 &&& 31))), (4, .int ((s.1 4) (((24 : Int32) + (a1 &&& 3)).toNatClampNeg))), (3, .int (a1 &&& 3)), (0, .ref 66), (1, .int a1), (2, .int a2)], [], (q_kN s c n))) rfl rfl (q_d_neT h2) ?_
    refine q_RP_seg (g2 := (41, [(5, .int ((8 : Int32) <<< (r1 &&& 31))), (4, .int ((s.1 4) (((24 : Int32) + (a1 &&& 3)).toNatClampNeg))), (3, .int (a1 &&& 3)), (0, .ref 66), (1, .int a1), (2, .int a2)], [.int ((s.1 4) (((24 : Int32) + (a1 &&& 3)).toNatClampNeg)), .int a2], (q_kN s c n))) 2 (fun _ _ => rfl) ?_
    cases h3 : decide (a2 < (s.1 4) (((24 : Int32) + (a1 &&& 3)).toNatClampNeg)) with
    | true =>
      refine q_RP_cT ?_
      refine q_RP_rsT (g2 := (57, [(5, .int ((8 : Int32) <<< (r1 &&& 31))), (4, .int ((s.1 4) (((24 : Int32) + (a1 &&& 3)).toNatClampNeg))), (3, .int (a1 &&& 3)), (0, .ref 66), (1, .int a1), (2, .int a2)], [], (q_kN s c n))) rfl rfl h3 ?_
      refine q_RP_seg (g2 := (58, [(5, .int ((8 : Int32) <<< (r1 &&& 31))), (4, .int ((s.1 4) (((24 : Int32) + (a1 &&& 3)).toNatClampNeg))), (3, .int (a1 &&& 3)), (0, .ref 66), (1, .int a1), (2, .int a2)], [.int 0], (q_kN s c n))) 1 (fun _ _ => rfl) ?_
      exact q_RP_ret rfl rfl rfl
    | false =>
      refine q_RP_cF ?_
      refine q_RP_rsF (g2 := (44, [(5, .int ((8 : Int32) <<< (r1 &&& 31))), (4, .int ((s.1 4) (((24 : Int32) + (a1 &&& 3)).toNatClampNeg))), (3, .int (a1 &&& 3)), (0, .ref 66), (1, .int a1), (2, .int a2)], [], (q_kN s c n))) rfl rfl h3 ?_
      refine q_RP_seg (g2 := (50, [(5, .int ((8 : Int32) <<< (r1 &&& 31))), (4, .int ((s.1 4) (((24 : Int32) + (a1 &&& 3)).toNatClampNeg))), (3, .int (a1 &&& 3)), (0, .ref 66), (1, .int a1), (2, .int a2)], [.int (((s.1 4) (((24 : Int32) + (a1 &&& 3)).toNatClampNeg)) + ((8 : Int32) <<< (r1 &&& 31))), .int a2], (q_kN s c n))) 4 (fun _ _ => rfl) ?_
      cases h4 : decide (a2 < ((s.1 4) (((24 : Int32) + (a1 &&& 3)).toNatClampNeg)) + ((8 : Int32) <<< (r1 &&& 31))) with
      | true =>
        refine q_RP_cT ?_
        refine q_RP_rsF (g2 := (53, [(5, .int ((8 : Int32) <<< (r1 &&& 31))), (4, .int ((s.1 4) (((24 : Int32) + (a1 &&& 3)).toNatClampNeg))), (3, .int (a1 &&& 3)), (0, .ref 66), (1, .int a1), (2, .int a2)], [], (q_kN s c n))) rfl rfl (q_d_geT h4) ?_
        refine q_RP_seg (g2 := (58, [(5, .int ((8 : Int32) <<< (r1 &&& 31))), (4, .int ((s.1 4) (((24 : Int32) + (a1 &&& 3)).toNatClampNeg))), (3, .int (a1 &&& 3)), (0, .ref 66), (1, .int a1), (2, .int a2)], [.int 1], (q_kN s c n))) 2 (fun _ _ => rfl) ?_
        exact q_RP_ret rfl rfl rfl
      | false =>
        refine q_RP_cF ?_
        refine q_RP_rsT (g2 := (57, [(5, .int ((8 : Int32) <<< (r1 &&& 31))), (4, .int ((s.1 4) (((24 : Int32) + (a1 &&& 3)).toNatClampNeg))), (3, .int (a1 &&& 3)), (0, .ref 66), (1, .int a1), (2, .int a2)], [], (q_kN s c n))) rfl rfl (q_d_geF h4) ?_
        refine q_RP_seg (g2 := (58, [(5, .int ((8 : Int32) <<< (r1 &&& 31))), (4, .int ((s.1 4) (((24 : Int32) + (a1 &&& 3)).toNatClampNeg))), (3, .int (a1 &&& 3)), (0, .ref 66), (1, .int a1), (2, .int a2)], [.int 0], (q_kN s c n))) 1 (fun _ _ => rfl) ?_
        exact q_RP_ret rfl rfl rfl
  | false =>
    refine q_RP_cF ?_
    refine q_RP_rsT (g2 := (57, [(5, .int ((8 : Int32) <<< (r1 &&& 31))), (4, .int ((s.1 4) (((24 : Int32) + (a1 &&& 3)).toNatClampNeg))), (3, .int (a1 &&& 3)), (0, .ref 66), (1, .int a1), (2, .int a2)], [], (q_kN s c n))) rfl rfl (q_d_neF h2) ?_
    refine q_RP_seg (g2 := (58, [(5, .int ((8 : Int32) <<< (r1 &&& 31))), (4, .int ((s.1 4) (((24 : Int32) + (a1 &&& 3)).toNatClampNeg))), (3, .int (a1 &&& 3)), (0, .ref 66), (1, .int a1), (2, .int a2)], [.int 0], (q_kN s c n))) 1 (fun _ _ => rfl) ?_
    exact q_RP_ret rfl rfl rfl
def dz_N116_66_24 (s : q_S) (v1 : Int32) (v2 : Int32) : Option (Bool) :=
  cond (decide (v2 < 20)) (cond (decide ((s.1 4) 1 = 0)) (q_let (dz_N115_66 s) fun r3 => cond (decide ((v1 + r3) - (v1 + r3) / 8 * 8 = 0)) (some true) (some false)) (cond (decide ((s.1 4) 1 = 3)) (some false) (cond (decide (v2 < 4)) (some true) (some false)))) ((dz_N117_66 s (v2 - 20) v1).bind fun r4 => cond r4 (some true) (some false))
set_option maxHeartbeats 4000000 in
theorem dzt_N116_66_24 (c n : Nat) (s : q_S) (v1 : Int32) (v2 : Int32) : q_RP q_TB0 2 115 (24, [(0, .ref 66), (1, .int v1), (2, .int v2)], [], (q_kN s c n)) (q_oB (q_kN s c n)) (dz_N116_66_24 s v1 v2) := by
  unfold dz_N116_66_24
  refine q_RP_seg (g2 := (27, [(0, .ref 66), (1, .int v1), (2, .int v2)], [.int 20, .int v2], (q_kN s c n))) 2 (fun _ _ => rfl) ?_
  cases h12 : decide (v2 < 20) with
  | true =>
    refine q_RP_cT ?_
    refine q_RP_rsT (g2 := (40, [(0, .ref 66), (1, .int v1), (2, .int v2)], [], (q_kN s c n))) rfl rfl h12 ?_
    refine q_RP_seg (g2 := (46, [(0, .ref 66), (1, .int v1), (2, .int v2)], [.int ((s.1 4) 1)], (q_kN s c n))) 4 (fun _ _ => rfl) ?_
    cases h13 : decide ((s.1 4) 1 = 0) with
    | true =>
      refine q_RP_cT ?_
      refine q_RP_rsF (g2 := (49, [(0, .ref 66), (1, .int v1), (2, .int v2)], [], (q_kN s c n))) rfl rfl (q_d_neT h13) ?_
      refine q_RP_seg (g2 := (51, [(0, .ref 66), (1, .int v1), (2, .int v2)], [.ref 66, .int v1], (q_kN s c n))) 2 (fun _ _ => rfl) ?_
      refine q_RP_call (v := (some (.int (dz_N115_66 s)))) (h2 := (q_kN s c n)) rfl rfl ((dzt_N115_66 s c n).le (Nat.le_of_ble_eq_true rfl)) ?_
      generalize dz_N115_66 s = r3
      refine q_RP_let ?_
      show q_RP _ _ _ (54, [(0, .ref 66), (1, .int v1), (2, .int v2)], [.int r3, .int v1], (q_kN s c n)) _ _
      refine q_RP_seg (g2 := (58, [(0, .ref 66), (1, .int v1), (2, .int v2)], [.int ((v1 + r3) - (v1 + r3) / 8 * 8)], (q_kN s c n))) 3 (fun _ _ => rfl) ?_
      cases h14 : decide ((v1 + r3) - (v1 + r3) / 8 * 8 = 0) with
      | true =>
        refine q_RP_cT ?_
        refine q_RP_rsF (g2 := (61, [(0, .ref 66), (1, .int v1), (2, .int v2)], [], (q_kN s c n))) rfl rfl (q_d_neT h14) ?_
        refine q_RP_seg (g2 := (66, [(0, .ref 66), (1, .int v1), (2, .int v2)], [.int 1], (q_kN s c n))) 2 (fun _ _ => rfl) ?_
        exact q_RP_ret rfl rfl rfl
      | false =>
        refine q_RP_cF ?_
        refine q_RP_rsT (g2 := (65, [(0, .ref 66), (1, .int v1), (2, .int v2)], [], (q_kN s c n))) rfl rfl (q_d_neF h14) ?_
        refine q_RP_seg (g2 := (66, [(0, .ref 66), (1, .int v1), (2, .int v2)], [.int 0], (q_kN s c n))) 1 (fun _ _ => rfl) ?_
        exact q_RP_ret rfl rfl rfl
    | false =>
      refine q_RP_cF ?_
      refine q_RP_rsT (g2 := (67, [(0, .ref 66), (1, .int v1), (2, .int v2)], [], (q_kN s c n))) rfl rfl (q_d_neF h13) ?_
      refine q_RP_seg (g2 := (73, [(0, .ref 66), (1, .int v1), (2, .int v2)], [.int ((s.1 4) 1)], (q_kN s c n))) 4 (fun _ _ => rfl) ?_
      refine q_RP_seg (g2 := (74, [(0, .ref 66), (1, .int v1), (2, .int v2)], [.int 3, .int ((s.1 4) 1)], (q_kN s c n))) 1 (fun _ _ => rfl) ?_
      cases h15 : decide ((s.1 4) 1 = 3) with
      | true =>
        refine q_RP_cT ?_
        refine q_RP_rsT (g2 := (86, [(0, .ref 66), (1, .int v1), (2, .int v2)], [], (q_kN s c n))) rfl rfl h15 ?_
        refine q_RP_seg (g2 := (87, [(0, .ref 66), (1, .int v1), (2, .int v2)], [.int 0], (q_kN s c n))) 1 (fun _ _ => rfl) ?_
        exact q_RP_ret rfl rfl rfl
      | false =>
        refine q_RP_cF ?_
        refine q_RP_rsF (g2 := (77, [(0, .ref 66), (1, .int v1), (2, .int v2)], [], (q_kN s c n))) rfl rfl h15 ?_
        refine q_RP_seg (g2 := (79, [(0, .ref 66), (1, .int v1), (2, .int v2)], [.int 4, .int v2], (q_kN s c n))) 2 (fun _ _ => rfl) ?_
        cases h16 : decide (v2 < 4) with
        | true =>
          refine q_RP_cT ?_
          refine q_RP_rsF (g2 := (82, [(0, .ref 66), (1, .int v1), (2, .int v2)], [], (q_kN s c n))) rfl rfl (q_d_geT h16) ?_
          refine q_RP_seg (g2 := (87, [(0, .ref 66), (1, .int v1), (2, .int v2)], [.int 1], (q_kN s c n))) 2 (fun _ _ => rfl) ?_
          exact q_RP_ret rfl rfl rfl
        | false =>
          refine q_RP_cF ?_
          refine q_RP_rsT (g2 := (86, [(0, .ref 66), (1, .int v1), (2, .int v2)], [], (q_kN s c n))) rfl rfl (q_d_geF h16) ?_
          refine q_RP_seg (g2 := (87, [(0, .ref 66), (1, .int v1), (2, .int v2)], [.int 0], (q_kN s c n))) 1 (fun _ _ => rfl) ?_
          exact q_RP_ret rfl rfl rfl
  | false =>
    refine q_RP_cF ?_
    refine q_RP_rsF (g2 := (30, [(0, .ref 66), (1, .int v1), (2, .int v2)], [], (q_kN s c n))) rfl rfl h12 ?_
    refine q_RP_seg (g2 := (36, [(0, .ref 66), (1, .int v1), (2, .int v2)], [.int v1, .int (v2 - 20), .ref 66], (q_kN s c n))) 5 (fun _ _ => rfl) ?_
    refine q_RP_bd fun r4 er4 => ?_
    refine q_RP_call (v := (some (.int (q_b r4)))) (h2 := (q_kN s c n)) rfl rfl ((dzt_N117_66 s c n (v2 - 20) v1 r4 er4).le (Nat.le_of_ble_eq_true rfl)) ?_
    show q_RP _ _ _ (39, [(0, .ref 66), (1, .int v1), (2, .int v2)], [.int (q_b r4)], (q_kN s c n)) _ _
    cases h17 : r4 with
    | true =>
      refine q_RP_cT ?_
      show q_RP _ _ _ (39, [(0, .ref 66), (1, .int v1), (2, .int v2)], [.int 1], (q_kN s c n)) _ _
      exact q_RP_ret rfl rfl rfl
    | false =>
      refine q_RP_cF ?_
      show q_RP _ _ _ (39, [(0, .ref 66), (1, .int v1), (2, .int v2)], [.int 0], (q_kN s c n)) _ _
      exact q_RP_ret rfl rfl rfl
def dz_N116_66 (s : q_S) (a1 : Int32) (a2 : Int32) : Option (Bool) :=
  cond (decide (a1 < 0)) (some false) (cond (decide (a1 < 32)) (cond (decide (a2 < 8)) (dz_N116_66_24 s a1 a2) (cond (decide (a2 < 20)) (some false) (dz_N116_66_24 s a1 a2))) (some false))
set_option maxHeartbeats 4000000 in
theorem dzt_N116_66 (s : q_S) (c n : Nat) (a1 : Int32) (a2 : Int32) (x : Bool) (h : dz_N116_66 s a1 a2 = some x) : q_Ca q_TB0 3 115 [.ref 66, .int a1, .int a2] (q_kN s c n) ((q_oB (q_kN s c n)) x) := by
  refine q_CaP_of (φ := (q_oB (q_kN s c n))) (Nat.le_of_ble_eq_true rfl) ?_ h
  clear h
  unfold dz_N116_66
  refine q_RP_seg (g2 := (1, [(0, .ref 66), (1, .int a1), (2, .int a2)], [.int a1], (q_kN s c n))) 1 (fun _ _ => rfl) ?_
  cases h9 : decide (a1 < 0) with
  | true =>
    refine q_RP_cT ?_
    refine q_RP_rsT (g2 := (22, [(0, .ref 66), (1, .int a1), (2, .int a2)], [], (q_kN s c n))) rfl rfl h9 ?_
    refine q_RP_seg (g2 := (23, [(0, .ref 66), (1, .int a1), (2, .int a2)], [.int 0], (q_kN s c n))) 1 (fun _ _ => rfl) ?_
    exact q_RP_ret rfl rfl rfl
  | false =>
    refine q_RP_cF ?_
    refine q_RP_rsF (g2 := (4, [(0, .ref 66), (1, .int a1), (2, .int a2)], [], (q_kN s c n))) rfl rfl h9 ?_
    refine q_RP_seg (g2 := (7, [(0, .ref 66), (1, .int a1), (2, .int a2)], [.int 32, .int a1], (q_kN s c n))) 2 (fun _ _ => rfl) ?_
    cases h10 : decide (a1 < 32) with
    | true =>
      refine q_RP_cT ?_
      refine q_RP_rsF (g2 := (10, [(0, .ref 66), (1, .int a1), (2, .int a2)], [], (q_kN s c n))) rfl rfl (q_d_geT h10) ?_
      refine q_RP_seg (g2 := (13, [(0, .ref 66), (1, .int a1), (2, .int a2)], [.int 8, .int a2], (q_kN s c n))) 2 (fun _ _ => rfl) ?_
      cases h11 : decide (a2 < 8) with
      | true =>
        refine q_RP_cT ?_
        refine q_RP_rsT (g2 := (24, [(0, .ref 66), (1, .int a1), (2, .int a2)], [], (q_kN s c n))) rfl rfl h11 ?_
        exact (dzt_N116_66_24 c n s a1 a2)
      | false =>
        refine q_RP_cF ?_
        refine q_RP_rsF (g2 := (16, [(0, .ref 66), (1, .int a1), (2, .int a2)], [], (q_kN s c n))) rfl rfl h11 ?_
        refine q_RP_seg (g2 := (19, [(0, .ref 66), (1, .int a1), (2, .int a2)], [.int 20, .int a2], (q_kN s c n))) 2 (fun _ _ => rfl) ?_
        cases h18 : decide (a2 < 20) with
        | true =>
          refine q_RP_cT ?_
          refine q_RP_rsF (g2 := (22, [(0, .ref 66), (1, .int a1), (2, .int a2)], [], (q_kN s c n))) rfl rfl (q_d_geT h18) ?_
          refine q_RP_seg (g2 := (23, [(0, .ref 66), (1, .int a1), (2, .int a2)], [.int 0], (q_kN s c n))) 1 (fun _ _ => rfl) ?_
          exact q_RP_ret rfl rfl rfl
        | false =>
          refine q_RP_cF ?_
          refine q_RP_rsT (g2 := (24, [(0, .ref 66), (1, .int a1), (2, .int a2)], [], (q_kN s c n))) rfl rfl (q_d_geF h18) ?_
          exact (dzt_N116_66_24 c n s a1 a2)
    | false =>
      refine q_RP_cF ?_
      refine q_RP_rsT (g2 := (22, [(0, .ref 66), (1, .int a1), (2, .int a2)], [], (q_kN s c n))) rfl rfl (q_d_geF h10) ?_
      refine q_RP_seg (g2 := (23, [(0, .ref 66), (1, .int a1), (2, .int a2)], [.int 0], (q_kN s c n))) 1 (fun _ _ => rfl) ?_
      exact q_RP_ret rfl rfl rfl
def dz_N102_65 (s : q_S) : Option (Bool) :=
  q_let (dz_N86_65 s) fun r4 => q_let (dz_N87_65 s) fun r5 => (dz_N116_66 s ((r4 / 24) - 4) r5).bind fun r6 => cond r6 (some true) (some false)
set_option maxHeartbeats 4000000 in
theorem dzt_N102_65 (s : q_S) (c n : Nat) (x : Bool) (h : dz_N102_65 s = some x) : q_Ca q_TB0 4 101 [.ref 65] (q_kN s c n) ((q_oB (q_kN s c n)) x) := by
  refine q_CaP_of (φ := (q_oB (q_kN s c n))) (Nat.le_of_ble_eq_true rfl) ?_ h
  clear h
  unfold dz_N102_65
  refine q_RP_seg (g2 := (5, [(0, .ref 65)], [.ref 65, .ref 66], (q_kN s c n))) 3 (fun _ _ => rfl) ?_
  refine q_RP_call (v := (some (.int (dz_N86_65 s)))) (h2 := (q_kN s c n)) rfl rfl ((dzt_N86_65 s c n).le (Nat.le_of_ble_eq_true rfl)) ?_
  generalize dz_N86_65 s = r4
  refine q_RP_let ?_
  show q_RP _ _ _ (8, [(0, .ref 65)], [.int r4, .ref 66], (q_kN s c n)) _ _
  refine q_RP_seg (g2 := (14, [(0, .ref 65)], [.ref 65, .int ((r4 / 24) - 4), .ref 66], (q_kN s c n))) 5 (fun _ _ => rfl) ?_
  refine q_RP_call (v := (some (.int (dz_N87_65 s)))) (h2 := (q_kN s c n)) rfl rfl ((dzt_N87_65 s c n).le (Nat.le_of_ble_eq_true rfl)) ?_
  generalize dz_N87_65 s = r5
  refine q_RP_let ?_
  show q_RP _ _ _ (17, [(0, .ref 65)], [.int r5, .int ((r4 / 24) - 4), .ref 66], (q_kN s c n)) _ _
  refine q_RP_bd fun r6 er6 => ?_
  refine q_RP_call (v := (some (.int (q_b r6)))) (h2 := (q_kN s c n)) rfl rfl ((dzt_N116_66 s c n ((r4 / 24) - 4) r5 r6 er6).le (Nat.le_of_ble_eq_true rfl)) ?_
  show q_RP _ _ _ (20, [(0, .ref 65)], [.int (q_b r6)], (q_kN s c n)) _ _
  cases h1 : r6 with
  | true =>
    refine q_RP_cT ?_
    show q_RP _ _ _ (20, [(0, .ref 65)], [.int 1], (q_kN s c n)) _ _
    exact q_RP_ret rfl rfl rfl
  | false =>
    refine q_RP_cF ?_
    show q_RP _ _ _ (20, [(0, .ref 65)], [.int 0], (q_kN s c n)) _ _
    exact q_RP_ret rfl rfl rfl
def dz_N114_66 (s : q_S) : Int32 :=
  (((s.1 4) 2) &&& 3)
set_option maxHeartbeats 4000000 in
theorem dzt_N114_66 (s : q_S) (c n : Nat) : q_Ca q_TB0 1 113 [.ref 66] (q_kN s c n) ((q_oP (q_kN s c n)) (dz_N114_66 s)) := by
  refine q_CaT_of (φ := (q_oP (q_kN s c n))) (Nat.le_of_ble_eq_true rfl) ?_
  unfold dz_N114_66
  refine q_RT_seg (g2 := (6, [(0, .ref 66)], [.int ((s.1 4) 2)], (q_kN s c n))) 4 (fun _ _ => rfl) ?_
  refine q_RT_seg (g2 := (8, [(0, .ref 66)], [.int (((s.1 4) 2) &&& 3)], (q_kN s c n))) 2 (fun _ _ => rfl) ?_
  exact q_RT_ret rfl rfl rfl
def dz_N120_66 (s : q_S) (a1 : Int32) : Int32 :=
  ((s.1 3) ((a1 &&& 4095).toNatClampNeg))
set_option maxHeartbeats 4000000 in
theorem dzt_N120_66 (s : q_S) (c n : Nat) (a1 : Int32) : q_Ca q_TB0 1 119 [.ref 66, .int a1] (q_kN s c n) ((q_oP (q_kN s c n)) (dz_N120_66 s a1)) := by
  refine q_CaT_of (φ := (q_oP (q_kN s c n))) (Nat.le_of_ble_eq_true rfl) ?_
  unfold dz_N120_66
  refine q_RT_seg (g2 := (9, [(0, .ref 66), (1, .int a1)], [.int (a1 &&& 4095), .ref 67], (q_kN s c n))) 5 (fun _ _ => rfl) ?_
  refine q_RT_rsT (g2 := (10, [(0, .ref 66), (1, .int a1)], [.int ((s.1 3) ((a1 &&& 4095).toNatClampNeg))], (q_kN s c n))) rfl rfl (q_in_bd (x := a1 &&& 4095) (n := 4096) (U := 4095) (L := 0) (q_and_lo a1 4095) (q_and_hi a1 4095 4095)) ?_
  exact q_RT_ret rfl rfl rfl
def dz_N119_66 (s : q_S) (a1 : Int32) (a2 : Int32) : Int32 :=
  q_let (dz_N114_66 s) fun r1 => q_let (dz_N115_66 s) fun r2 => q_let (dz_N120_66 s (((256 * ((s.1 4) 7)) + (4 * ((a2 + r2) - (a2 + r2) / 32 * 32))) + (((a1 + r1) - (a1 + r1) / 32 * 32) / 8))) fun r3 => cond (decide ((s.1 4) 1 < 0)) (0) (cond (decide (2 < (s.1 4) 1)) (0) (cond (decide ((s.1 4) 1 = 0)) (q_let (dz_N120_66 s (((256 * ((s.1 4) 7)) + (8 * (((a2 + r2) - (a2 + r2) / 32 * 32) / 8))) + (((a1 + r1) - (a1 + r1) / 32 * 32) / 4))) fun r4 => q_let (dz_N120_66 s (((256 * ((s.1 4) 8)) + (8 * r4)) + (((a2 + r2) - (a2 + r2) / 32 * 32) - ((a2 + r2) - (a2 + r2) / 32 * 32) / 8 * 8))) fun r5 => ((r5 >>> (((3 : Int32) - (((a1 + r1) - (a1 + r1) / 32 * 32) - ((a1 + r1) - (a1 + r1) / 32 * 32) / 4 * 4)) &&& 31)) &&& 1)) (cond (decide ((s.1 4) 1 = 1)) (((r3 >>> (((7 : Int32) - (((a1 + r1) - (a1 + r1) / 32 * 32) - ((a1 + r1) - (a1 + r1) / 32 * 32) / 8 * 8)) &&& 31)) &&& 1)) (((r3 >>> (((6 : Int32) - (2 * ((((a1 + r1) - (a1 + r1) / 32 * 32) - ((a1 + r1) - (a1 + r1) / 32 * 32) / 8 * 8) / 2))) &&& 31)) &&& 3)))))
set_option maxHeartbeats 4000000 in
theorem dzt_N119_66 (s : q_S) (c n : Nat) (a1 : Int32) (a2 : Int32) : q_Ca q_TB0 2 118 [.ref 66, .int a1, .int a2] (q_kN s c n) ((q_oP (q_kN s c n)) (dz_N119_66 s a1 a2)) := by
  refine q_CaT_of (φ := (q_oP (q_kN s c n))) (Nat.le_of_ble_eq_true rfl) ?_
  unfold dz_N119_66
  refine q_RT_seg (g2 := (2, [(0, .ref 66), (1, .int a1), (2, .int a2)], [.ref 66, .int a1], (q_kN s c n))) 2 (fun _ _ => rfl) ?_
  refine q_RT_call (v := (some (.int (dz_N114_66 s)))) (h2 := (q_kN s c n)) rfl rfl ((dzt_N114_66 s c n).le (Nat.le_of_ble_eq_true rfl)) ?_
  generalize dz_N114_66 s = r1
  refine q_RT_let ?_
  show q_RT _ _ _ (5, [(0, .ref 66), (1, .int a1), (2, .int a2)], [.int r1, .int a1], (q_kN s c n)) _ _
  refine q_RT_seg (g2 := (12, [(3, .int ((a1 + r1) - (a1 + r1) / 32 * 32)), (0, .ref 66), (1, .int a1), (2, .int a2)], [.ref 66, .int a2], (q_kN s c n))) 6 (fun _ _ => rfl) ?_
  refine q_RT_call (v := (some (.int (dz_N115_66 s)))) (h2 := (q_kN s c n)) rfl rfl ((dzt_N115_66 s c n).le (Nat.le_of_ble_eq_true rfl)) ?_
  generalize dz_N115_66 s = r2
  refine q_RT_let ?_
  show q_RT _ _ _ (15, [(3, .int ((a1 + r1) - (a1 + r1) / 32 * 32)), (0, .ref 66), (1, .int a1), (2, .int a2)], [.int r2, .int a2], (q_kN s c n)) _ _
  refine q_RT_seg (g2 := (31, [(4, .int ((a2 + r2) - (a2 + r2) / 32 * 32)), (3, .int ((a1 + r1) - (a1 + r1) / 32 * 32)), (0, .ref 66), (1, .int a1), (2, .int a2)], [.int ((s.1 4) 7), .int 256], (q_kN s c n))) 9 (fun _ _ => rfl) ?_
  refine q_RT_seg (g2 := (47, [(5, .int (256 * ((s.1 4) 7))), (4, .int ((a2 + r2) - (a2 + r2) / 32 * 32)), (3, .int ((a1 + r1) - (a1 + r1) / 32 * 32)), (0, .ref 66), (1, .int a1), (2, .int a2)], [.int (((256 * ((s.1 4) 7)) + (4 * ((a2 + r2) - (a2 + r2) / 32 * 32))) + (((a1 + r1) - (a1 + r1) / 32 * 32) / 8)), .ref 66], (q_kN s c n))) 12 (fun _ _ => rfl) ?_
  refine q_RT_call (v := (some (.int (dz_N120_66 s (((256 * ((s.1 4) 7)) + (4 * ((a2 + r2) - (a2 + r2) / 32 * 32))) + (((a1 + r1) - (a1 + r1) / 32 * 32) / 8)))))) (h2 := (q_kN s c n)) rfl rfl ((dzt_N120_66 s c n (((256 * ((s.1 4) 7)) + (4 * ((a2 + r2) - (a2 + r2) / 32 * 32))) + (((a1 + r1) - (a1 + r1) / 32 * 32) / 8))).le (Nat.le_of_ble_eq_true rfl)) ?_
  generalize dz_N120_66 s (((256 * ((s.1 4) 7)) + (4 * ((a2 + r2) - (a2 + r2) / 32 * 32))) + (((a1 + r1) - (a1 + r1) / 32 * 32) / 8)) = r3
  refine q_RT_let ?_
  show q_RT _ _ _ (50, [(5, .int (256 * ((s.1 4) 7))), (4, .int ((a2 + r2) - (a2 + r2) / 32 * 32)), (3, .int ((a1 + r1) - (a1 + r1) / 32 * 32)), (0, .ref 66), (1, .int a1), (2, .int a2)], [.int r3], (q_kN s c n)) _ _
  refine q_RT_seg (g2 := (58, [(6, .int r3), (5, .int (256 * ((s.1 4) 7))), (4, .int ((a2 + r2) - (a2 + r2) / 32 * 32)), (3, .int ((a1 + r1) - (a1 + r1) / 32 * 32)), (0, .ref 66), (1, .int a1), (2, .int a2)], [.int ((s.1 4) 1)], (q_kN s c n))) 5 (fun _ _ => rfl) ?_
  cases h1 : decide ((s.1 4) 1 < 0) with
  | true =>
    refine q_RT_cT ?_
    refine q_RT_st1 (g2 := (171, [(6, .int r3), (5, .int (256 * ((s.1 4) 7))), (4, .int ((a2 + r2) - (a2 + r2) / 32 * 32)), (3, .int ((a1 + r1) - (a1 + r1) / 32 * 32)), (0, .ref 66), (1, .int a1), (2, .int a2)], [], (q_kN s c n))) rfl (if_pos (Or.inl (Int32.lt_iff_toInt_lt.mp (of_decide_eq_true h1)))) ?_
    refine q_RT_seg (g2 := (172, [(6, .int r3), (5, .int (256 * ((s.1 4) 7))), (4, .int ((a2 + r2) - (a2 + r2) / 32 * 32)), (3, .int ((a1 + r1) - (a1 + r1) / 32 * 32)), (0, .ref 66), (1, .int a1), (2, .int a2)], [.int 0], (q_kN s c n))) 1 (fun _ _ => rfl) ?_
    exact q_RT_ret rfl rfl rfl
  | false =>
    refine q_RT_cF ?_
    cases h2 : decide (2 < (s.1 4) 1) with
    | true =>
      refine q_RT_cT ?_
      refine q_RT_st1 (g2 := (171, [(6, .int r3), (5, .int (256 * ((s.1 4) 7))), (4, .int ((a2 + r2) - (a2 + r2) / 32 * 32)), (3, .int ((a1 + r1) - (a1 + r1) / 32 * 32)), (0, .ref 66), (1, .int a1), (2, .int a2)], [], (q_kN s c n))) rfl (if_pos (Or.inr (Int32.lt_iff_toInt_lt.mp (of_decide_eq_true h2)))) ?_
      refine q_RT_seg (g2 := (172, [(6, .int r3), (5, .int (256 * ((s.1 4) 7))), (4, .int ((a2 + r2) - (a2 + r2) / 32 * 32)), (3, .int ((a1 + r1) - (a1 + r1) / 32 * 32)), (0, .ref 66), (1, .int a1), (2, .int a2)], [.int 0], (q_kN s c n))) 1 (fun _ _ => rfl) ?_
      exact q_RT_ret rfl rfl rfl
    | false =>
      refine q_RT_cF ?_
      cases h3 : decide ((s.1 4) 1 = 0) with
      | true =>
        refine q_RT_cT ?_
        refine q_RT_st1 (g2 := (84, [(6, .int r3), (5, .int (256 * ((s.1 4) 7))), (4, .int ((a2 + r2) - (a2 + r2) / 32 * 32)), (3, .int ((a1 + r1) - (a1 + r1) / 32 * 32)), (0, .ref 66), (1, .int a1), (2, .int a2)], [], (q_kN s c n))) rfl (by rw [of_decide_eq_true h3]; rfl) ?_
        refine q_RT_seg (g2 := (100, [(6, .int r3), (5, .int (256 * ((s.1 4) 7))), (4, .int ((a2 + r2) - (a2 + r2) / 32 * 32)), (3, .int ((a1 + r1) - (a1 + r1) / 32 * 32)), (0, .ref 66), (1, .int a1), (2, .int a2)], [.int (((256 * ((s.1 4) 7)) + (8 * (((a2 + r2) - (a2 + r2) / 32 * 32) / 8))) + (((a1 + r1) - (a1 + r1) / 32 * 32) / 4)), .ref 66], (q_kN s c n))) 12 (fun _ _ => rfl) ?_
        refine q_RT_call (v := (some (.int (dz_N120_66 s (((256 * ((s.1 4) 7)) + (8 * (((a2 + r2) - (a2 + r2) / 32 * 32) / 8))) + (((a1 + r1) - (a1 + r1) / 32 * 32) / 4)))))) (h2 := (q_kN s c n)) rfl rfl ((dzt_N120_66 s c n (((256 * ((s.1 4) 7)) + (8 * (((a2 + r2) - (a2 + r2) / 32 * 32) / 8))) + (((a1 + r1) - (a1 + r1) / 32 * 32) / 4))).le (Nat.le_of_ble_eq_true rfl)) ?_
        generalize dz_N120_66 s (((256 * ((s.1 4) 7)) + (8 * (((a2 + r2) - (a2 + r2) / 32 * 32) / 8))) + (((a1 + r1) - (a1 + r1) / 32 * 32) / 4)) = r4
        refine q_RT_let ?_
        show q_RT _ _ _ (103, [(6, .int r3), (5, .int (256 * ((s.1 4) 7))), (4, .int ((a2 + r2) - (a2 + r2) / 32 * 32)), (3, .int ((a1 + r1) - (a1 + r1) / 32 * 32)), (0, .ref 66), (1, .int a1), (2, .int a2)], [.int r4], (q_kN s c n)) _ _
        refine q_RT_seg (g2 := (116, [(7, .int r4), (6, .int r3), (5, .int (256 * ((s.1 4) 7))), (4, .int ((a2 + r2) - (a2 + r2) / 32 * 32)), (3, .int ((a1 + r1) - (a1 + r1) / 32 * 32)), (0, .ref 66), (1, .int a1), (2, .int a2)], [.int ((s.1 4) 8), .int 256, .ref 66], (q_kN s c n))) 7 (fun _ _ => rfl) ?_
        refine q_RT_seg (g2 := (129, [(7, .int r4), (6, .int r3), (5, .int (256 * ((s.1 4) 7))), (4, .int ((a2 + r2) - (a2 + r2) / 32 * 32)), (3, .int ((a1 + r1) - (a1 + r1) / 32 * 32)), (0, .ref 66), (1, .int a1), (2, .int a2)], [.int (((256 * ((s.1 4) 8)) + (8 * r4)) + (((a2 + r2) - (a2 + r2) / 32 * 32) - ((a2 + r2) - (a2 + r2) / 32 * 32) / 8 * 8)), .ref 66], (q_kN s c n))) 9 (fun _ _ => rfl) ?_
        refine q_RT_call (v := (some (.int (dz_N120_66 s (((256 * ((s.1 4) 8)) + (8 * r4)) + (((a2 + r2) - (a2 + r2) / 32 * 32) - ((a2 + r2) - (a2 + r2) / 32 * 32) / 8 * 8)))))) (h2 := (q_kN s c n)) rfl rfl ((dzt_N120_66 s c n (((256 * ((s.1 4) 8)) + (8 * r4)) + (((a2 + r2) - (a2 + r2) / 32 * 32) - ((a2 + r2) - (a2 + r2) / 32 * 32) / 8 * 8))).le (Nat.le_of_ble_eq_true rfl)) ?_
        generalize dz_N120_66 s (((256 * ((s.1 4) 8)) + (8 * r4)) + (((a2 + r2) - (a2 + r2) / 32 * 32) - ((a2 + r2) - (a2 + r2) / 32 * 32) / 8 * 8)) = r5
        refine q_RT_let ?_
        show q_RT _ _ _ (132, [(7, .int r4), (6, .int r3), (5, .int (256 * ((s.1 4) 7))), (4, .int ((a2 + r2) - (a2 + r2) / 32 * 32)), (3, .int ((a1 + r1) - (a1 + r1) / 32 * 32)), (0, .ref 66), (1, .int a1), (2, .int a2)], [.int r5], (q_kN s c n)) _ _
        refine q_RT_seg (g2 := (140, [(7, .int r4), (6, .int r3), (5, .int (256 * ((s.1 4) 7))), (4, .int ((a2 + r2) - (a2 + r2) / 32 * 32)), (3, .int ((a1 + r1) - (a1 + r1) / 32 * 32)), (0, .ref 66), (1, .int a1), (2, .int a2)], [.int ((r5 >>> (((3 : Int32) - (((a1 + r1) - (a1 + r1) / 32 * 32) - ((a1 + r1) - (a1 + r1) / 32 * 32) / 4 * 4)) &&& 31)) &&& 1)], (q_kN s c n))) 8 (fun _ _ => rfl) ?_
        exact q_RT_ret rfl rfl rfl
      | false =>
        refine q_RT_cF ?_
        cases h4 : decide ((s.1 4) 1 = 1) with
        | true =>
          refine q_RT_cT ?_
          refine q_RT_st1 (g2 := (141, [(6, .int r3), (5, .int (256 * ((s.1 4) 7))), (4, .int ((a2 + r2) - (a2 + r2) / 32 * 32)), (3, .int ((a1 + r1) - (a1 + r1) / 32 * 32)), (0, .ref 66), (1, .int a1), (2, .int a2)], [], (q_kN s c n))) rfl (by rw [of_decide_eq_true h4]; rfl) ?_
          refine q_RT_seg (g2 := (153, [(6, .int r3), (5, .int (256 * ((s.1 4) 7))), (4, .int ((a2 + r2) - (a2 + r2) / 32 * 32)), (3, .int ((a1 + r1) - (a1 + r1) / 32 * 32)), (0, .ref 66), (1, .int a1), (2, .int a2)], [.int ((r3 >>> (((7 : Int32) - (((a1 + r1) - (a1 + r1) / 32 * 32) - ((a1 + r1) - (a1 + r1) / 32 * 32) / 8 * 8)) &&& 31)) &&& 1)], (q_kN s c n))) 9 (fun _ _ => rfl) ?_
          exact q_RT_ret rfl rfl rfl
        | false =>
          refine q_RT_cF ?_
          have h5 : (s.1 4) 1 = 2 := Int32.toInt_inj.mp (by have e0 := q_neI h3 (n := 0); have e1 := q_neI h4 (n := 1); have l1 : 0 ≤ ((s.1 4) 1).toInt := q_lo1 h1; have l2 : ((s.1 4) 1).toInt ≤ 2 := q_hi2 h2; show ((s.1 4) 1).toInt = 2; omega)
          refine q_RT_st1 (g2 := (154, [(6, .int r3), (5, .int (256 * ((s.1 4) 7))), (4, .int ((a2 + r2) - (a2 + r2) / 32 * 32)), (3, .int ((a1 + r1) - (a1 + r1) / 32 * 32)), (0, .ref 66), (1, .int a1), (2, .int a2)], [], (q_kN s c n))) rfl (by rw [h5]; rfl) ?_
          refine q_RT_seg (g2 := (170, [(6, .int r3), (5, .int (256 * ((s.1 4) 7))), (4, .int ((a2 + r2) - (a2 + r2) / 32 * 32)), (3, .int ((a1 + r1) - (a1 + r1) / 32 * 32)), (0, .ref 66), (1, .int a1), (2, .int a2)], [.int ((r3 >>> (((6 : Int32) - (2 * ((((a1 + r1) - (a1 + r1) / 32 * 32) - ((a1 + r1) - (a1 + r1) / 32 * 32) / 8 * 8) / 2))) &&& 31)) &&& 3)], (q_kN s c n))) 13 (fun _ _ => rfl) ?_
          exact q_RT_ret rfl rfl rfl
def dz_N122_66_5 (m : Nat) : q_S → Int32 → Int32 → Int32 → Int32 → Option (Int32) := Nat.rec (motive := fun _ => q_S → Int32 → Int32 → Int32 → Int32 → Option (Int32)) (fun _ _ _ _ _ => none) (fun _ k5 s v1 v2 v3 v4 =>
  cond (decide (v4 < 4)) (q_let (dz_N118_66 s 18 v4) fun r1 => cond (q_in ((20 : Int32) + v4) 48) (q_let ((v1 - ((s.1 4) (((20 : Int32) + v4).toNatClampNeg))) >>> (r1 &&& 31)) fun x2 => cond (q_in ((24 : Int32) + v4) 48) (q_let ((v2 - ((s.1 4) (((24 : Int32) + v4).toNatClampNeg))) >>> (r1 &&& 31)) fun x3 => q_let (dz_N118_66 s 17 v4) fun r4 => cond (decide (r4 = 1)) (cond (decide (x2 < 0)) (k5 s v1 v2 v3 (v4 + 1)) (cond (decide (x2 < 8)) (cond (decide (x3 < 0)) (k5 s v1 v2 v3 (v4 + 1)) (cond (decide (x3 < 8)) (q_let (dz_N120_66 s ((((256 * ((s.1 4) 7)) + 128) + (8 * v4)) + x3)) fun r5 => q_let (v3 ||| (((r5 >>> (((7 : Int32) - x2) &&& 31)) &&& 1) <<< (v4 &&& 31))) fun x6 => k5 s v1 v2 x6 (v4 + 1)) (k5 s v1 v2 v3 (v4 + 1)))) (k5 s v1 v2 v3 (v4 + 1)))) (k5 s v1 v2 v3 (v4 + 1))) none) none) (some v3)) m
theorem dzs_N122_66_5 (m : Nat) (s : q_S) (v1 : Int32) (v2 : Int32) (v3 : Int32) (v4 : Int32) : dz_N122_66_5 (m + 1) s v1 v2 v3 v4 = (fun k5 : q_S → Int32 → Int32 → Int32 → Int32 → Option (Int32) =>
  cond (decide (v4 < 4)) (q_let (dz_N118_66 s 18 v4) fun r1 => cond (q_in ((20 : Int32) + v4) 48) (q_let ((v1 - ((s.1 4) (((20 : Int32) + v4).toNatClampNeg))) >>> (r1 &&& 31)) fun x2 => cond (q_in ((24 : Int32) + v4) 48) (q_let ((v2 - ((s.1 4) (((24 : Int32) + v4).toNatClampNeg))) >>> (r1 &&& 31)) fun x3 => q_let (dz_N118_66 s 17 v4) fun r4 => cond (decide (r4 = 1)) (cond (decide (x2 < 0)) (k5 s v1 v2 v3 (v4 + 1)) (cond (decide (x2 < 8)) (cond (decide (x3 < 0)) (k5 s v1 v2 v3 (v4 + 1)) (cond (decide (x3 < 8)) (q_let (dz_N120_66 s ((((256 * ((s.1 4) 7)) + 128) + (8 * v4)) + x3)) fun r5 => q_let (v3 ||| (((r5 >>> (((7 : Int32) - x2) &&& 31)) &&& 1) <<< (v4 &&& 31))) fun x6 => k5 s v1 v2 x6 (v4 + 1)) (k5 s v1 v2 v3 (v4 + 1)))) (k5 s v1 v2 v3 (v4 + 1)))) (k5 s v1 v2 v3 (v4 + 1))) none) none) (some v3)) (dz_N122_66_5 m) := rfl
set_option maxHeartbeats 4000000 in
theorem dzt_N122_66_5 (c n : Nat) (s : q_S) : ∀ (m : Nat) (v1 : Int32) (v2 : Int32) (v3 : Int32) (v4 : Int32), q_RP q_TB0 1 121 (5, [(0, .ref 66), (1, .int v1), (2, .int v2), (3, .int v3), (4, .int v4)], [], (q_kN s c n)) (q_oP (q_kN s c n)) (dz_N122_66_5 m s v1 v2 v3 v4) := by
  intro m
  induction m with
  | zero => intro v1 v2 v3 v4; exact q_RP_no
  | succ m ih =>
    intro v1 v2 v3 v4
    have hk5 := ih
    clear ih
    rw [dzs_N122_66_5]
    generalize dz_N122_66_5 m = k5 at hk5 ⊢
    dsimp only
    refine q_RP_seg (g2 := (8, [(0, .ref 66), (1, .int v1), (2, .int v2), (3, .int v3), (4, .int v4)], [.int 4, .int v4], (q_kN s c n))) 2 (fun _ _ => rfl) ?_
    cases h1 : decide (v4 < 4) with
    | true =>
      refine q_RP_cT ?_
      refine q_RP_rsF (g2 := (11, [(0, .ref 66), (1, .int v1), (2, .int v2), (3, .int v3), (4, .int v4)], [], (q_kN s c n))) rfl rfl (q_d_geT h1) ?_
      refine q_RP_seg (g2 := (16, [(0, .ref 66), (1, .int v1), (2, .int v2), (3, .int v3), (4, .int v4)], [.int v4, .int 18, .ref 66], (q_kN s c n))) 3 (fun _ _ => rfl) ?_
      refine q_RP_call (v := (some (.int (dz_N118_66 s 18 v4)))) (h2 := (q_kN s c n)) rfl rfl ((dzt_N118_66 s c n 18 v4).le (Nat.le_of_ble_eq_true rfl)) ?_
      generalize dz_N118_66 s 18 v4 = r1
      refine q_RP_let ?_
      show q_RP _ _ _ (19, [(0, .ref 66), (1, .int v1), (2, .int v2), (3, .int v3), (4, .int v4)], [.int r1], (q_kN s c n)) _ _
      refine q_RP_seg (g2 := (31, [(5, .int r1), (0, .ref 66), (1, .int v1), (2, .int v2), (3, .int v3), (4, .int v4)], [.int ((20 : Int32) + v4), .ref 68, .int v1], (q_kN s c n))) 7 (fun _ _ => rfl) ?_
      refine q_RP_as fun i2 => ?_
      refine q_RP_rsT (g2 := (32, [(5, .int r1), (0, .ref 66), (1, .int v1), (2, .int v2), (3, .int v3), (4, .int v4)], [.int ((s.1 4) (((20 : Int32) + v4).toNatClampNeg)), .int v1], (q_kN s c n))) rfl rfl i2 ?_
      refine q_RP_seg (g2 := (36, [(5, .int r1), (0, .ref 66), (1, .int v1), (2, .int v2), (3, .int v3), (4, .int v4)], [.int ((v1 - ((s.1 4) (((20 : Int32) + v4).toNatClampNeg))) >>> (r1 &&& 31))], (q_kN s c n))) 3 (fun _ _ => rfl) ?_
      generalize ((v1 - ((s.1 4) (((20 : Int32) + v4).toNatClampNeg))) >>> (r1 &&& 31)) = x2
      refine q_RP_let ?_
      show q_RP _ _ _ (36, [(5, .int r1), (0, .ref 66), (1, .int v1), (2, .int v2), (3, .int v3), (4, .int v4)], [.int x2], (q_kN s c n)) _ _
      refine q_RP_seg (g2 := (48, [(6, .int x2), (5, .int r1), (0, .ref 66), (1, .int v1), (2, .int v2), (3, .int v3), (4, .int v4)], [.int ((24 : Int32) + v4), .ref 68, .int v2], (q_kN s c n))) 7 (fun _ _ => rfl) ?_
      refine q_RP_as fun i3 => ?_
      refine q_RP_rsT (g2 := (49, [(6, .int x2), (5, .int r1), (0, .ref 66), (1, .int v1), (2, .int v2), (3, .int v3), (4, .int v4)], [.int ((s.1 4) (((24 : Int32) + v4).toNatClampNeg)), .int v2], (q_kN s c n))) rfl rfl i3 ?_
      refine q_RP_seg (g2 := (53, [(6, .int x2), (5, .int r1), (0, .ref 66), (1, .int v1), (2, .int v2), (3, .int v3), (4, .int v4)], [.int ((v2 - ((s.1 4) (((24 : Int32) + v4).toNatClampNeg))) >>> (r1 &&& 31))], (q_kN s c n))) 3 (fun _ _ => rfl) ?_
      generalize ((v2 - ((s.1 4) (((24 : Int32) + v4).toNatClampNeg))) >>> (r1 &&& 31)) = x3
      refine q_RP_let ?_
      show q_RP _ _ _ (53, [(6, .int x2), (5, .int r1), (0, .ref 66), (1, .int v1), (2, .int v2), (3, .int v3), (4, .int v4)], [.int x3], (q_kN s c n)) _ _
      refine q_RP_seg (g2 := (60, [(7, .int x3), (6, .int x2), (5, .int r1), (0, .ref 66), (1, .int v1), (2, .int v2), (3, .int v3), (4, .int v4)], [.int v4, .int 17, .ref 66], (q_kN s c n))) 4 (fun _ _ => rfl) ?_
      refine q_RP_call (v := (some (.int (dz_N118_66 s 17 v4)))) (h2 := (q_kN s c n)) rfl rfl ((dzt_N118_66 s c n 17 v4).le (Nat.le_of_ble_eq_true rfl)) ?_
      generalize dz_N118_66 s 17 v4 = r4
      refine q_RP_let ?_
      show q_RP _ _ _ (63, [(7, .int x3), (6, .int x2), (5, .int r1), (0, .ref 66), (1, .int v1), (2, .int v2), (3, .int v3), (4, .int v4)], [.int r4], (q_kN s c n)) _ _
      refine q_RP_seg (g2 := (64, [(7, .int x3), (6, .int x2), (5, .int r1), (0, .ref 66), (1, .int v1), (2, .int v2), (3, .int v3), (4, .int v4)], [.int 1, .int r4], (q_kN s c n))) 1 (fun _ _ => rfl) ?_
      cases h4 : decide (r4 = 1) with
      | true =>
        refine q_RP_cT ?_
        refine q_RP_rsF (g2 := (67, [(7, .int x3), (6, .int x2), (5, .int r1), (0, .ref 66), (1, .int v1), (2, .int v2), (3, .int v3), (4, .int v4)], [], (q_kN s c n))) rfl rfl (q_d_neT h4) ?_
        refine q_RP_seg (g2 := (69, [(7, .int x3), (6, .int x2), (5, .int r1), (0, .ref 66), (1, .int v1), (2, .int v2), (3, .int v3), (4, .int v4)], [.int x2], (q_kN s c n))) 1 (fun _ _ => rfl) ?_
        cases h5 : decide (x2 < 0) with
        | true =>
          refine q_RP_cT ?_
          refine q_RP_rsT (g2 := (137, [(7, .int x3), (6, .int x2), (5, .int r1), (0, .ref 66), (1, .int v1), (2, .int v2), (3, .int v3), (4, .int v4)], [], (q_kN s c n))) rfl rfl h5 ?_
          refine q_RP_seg (g2 := (5, [(4, .int (v4 + 1)), (7, .int x3), (6, .int x2), (5, .int r1), (0, .ref 66), (1, .int v1), (2, .int v2), (3, .int v3)], [], (q_kN s c n))) 2 (fun _ _ => rfl) ?_
          exact q_RP_xt (q_xt_mk (q_mn1 4 rfl (q_mn1 5 rfl (q_mn1 6 rfl (q_mn1 7 rfl (q_mn1 0 rfl q_mn0))))) rfl) (hk5 v1 v2 v3 (v4 + 1))
        | false =>
          refine q_RP_cF ?_
          refine q_RP_rsF (g2 := (72, [(7, .int x3), (6, .int x2), (5, .int r1), (0, .ref 66), (1, .int v1), (2, .int v2), (3, .int v3), (4, .int v4)], [], (q_kN s c n))) rfl rfl h5 ?_
          refine q_RP_seg (g2 := (76, [(7, .int x3), (6, .int x2), (5, .int r1), (0, .ref 66), (1, .int v1), (2, .int v2), (3, .int v3), (4, .int v4)], [.int 8, .int x2], (q_kN s c n))) 2 (fun _ _ => rfl) ?_
          cases h6 : decide (x2 < 8) with
          | true =>
            refine q_RP_cT ?_
            refine q_RP_rsF (g2 := (79, [(7, .int x3), (6, .int x2), (5, .int r1), (0, .ref 66), (1, .int v1), (2, .int v2), (3, .int v3), (4, .int v4)], [], (q_kN s c n))) rfl rfl (q_d_geT h6) ?_
            refine q_RP_seg (g2 := (81, [(7, .int x3), (6, .int x2), (5, .int r1), (0, .ref 66), (1, .int v1), (2, .int v2), (3, .int v3), (4, .int v4)], [.int x3], (q_kN s c n))) 1 (fun _ _ => rfl) ?_
            cases h7 : decide (x3 < 0) with
            | true =>
              refine q_RP_cT ?_
              refine q_RP_rsT (g2 := (137, [(7, .int x3), (6, .int x2), (5, .int r1), (0, .ref 66), (1, .int v1), (2, .int v2), (3, .int v3), (4, .int v4)], [], (q_kN s c n))) rfl rfl h7 ?_
              refine q_RP_seg (g2 := (5, [(4, .int (v4 + 1)), (7, .int x3), (6, .int x2), (5, .int r1), (0, .ref 66), (1, .int v1), (2, .int v2), (3, .int v3)], [], (q_kN s c n))) 2 (fun _ _ => rfl) ?_
              exact q_RP_xt (q_xt_mk (q_mn1 4 rfl (q_mn1 5 rfl (q_mn1 6 rfl (q_mn1 7 rfl (q_mn1 0 rfl q_mn0))))) rfl) (hk5 v1 v2 v3 (v4 + 1))
            | false =>
              refine q_RP_cF ?_
              refine q_RP_rsF (g2 := (84, [(7, .int x3), (6, .int x2), (5, .int r1), (0, .ref 66), (1, .int v1), (2, .int v2), (3, .int v3), (4, .int v4)], [], (q_kN s c n))) rfl rfl h7 ?_
              refine q_RP_seg (g2 := (88, [(7, .int x3), (6, .int x2), (5, .int r1), (0, .ref 66), (1, .int v1), (2, .int v2), (3, .int v3), (4, .int v4)], [.int 8, .int x3], (q_kN s c n))) 2 (fun _ _ => rfl) ?_
              cases h8 : decide (x3 < 8) with
              | true =>
                refine q_RP_cT ?_
                refine q_RP_rsF (g2 := (91, [(7, .int x3), (6, .int x2), (5, .int r1), (0, .ref 66), (1, .int v1), (2, .int v2), (3, .int v3), (4, .int v4)], [], (q_kN s c n))) rfl rfl (q_d_geT h8) ?_
                refine q_RP_seg (g2 := (102, [(7, .int x3), (6, .int x2), (5, .int r1), (0, .ref 66), (1, .int v1), (2, .int v2), (3, .int v3), (4, .int v4)], [.int ((s.1 4) 7), .int 256, .ref 66], (q_kN s c n))) 6 (fun _ _ => rfl) ?_
                refine q_RP_seg (g2 := (116, [(7, .int x3), (6, .int x2), (5, .int r1), (0, .ref 66), (1, .int v1), (2, .int v2), (3, .int v3), (4, .int v4)], [.int ((((256 * ((s.1 4) 7)) + 128) + (8 * v4)) + x3), .ref 66], (q_kN s c n))) 9 (fun _ _ => rfl) ?_
                refine q_RP_call (v := (some (.int (dz_N120_66 s ((((256 * ((s.1 4) 7)) + 128) + (8 * v4)) + x3))))) (h2 := (q_kN s c n)) rfl rfl ((dzt_N120_66 s c n ((((256 * ((s.1 4) 7)) + 128) + (8 * v4)) + x3)).le (Nat.le_of_ble_eq_true rfl)) ?_
                generalize dz_N120_66 s ((((256 * ((s.1 4) 7)) + 128) + (8 * v4)) + x3) = r5
                refine q_RP_let ?_
                show q_RP _ _ _ (119, [(7, .int x3), (6, .int x2), (5, .int r1), (0, .ref 66), (1, .int v1), (2, .int v2), (3, .int v3), (4, .int v4)], [.int r5], (q_kN s c n)) _ _
                refine q_RP_seg (g2 := (136, [(8, .int r5), (7, .int x3), (6, .int x2), (5, .int r1), (0, .ref 66), (1, .int v1), (2, .int v2), (3, .int v3), (4, .int v4)], [.int (v3 ||| (((r5 >>> (((7 : Int32) - x2) &&& 31)) &&& 1) <<< (v4 &&& 31)))], (q_kN s c n))) 12 (fun _ _ => rfl) ?_
                generalize (v3 ||| (((r5 >>> (((7 : Int32) - x2) &&& 31)) &&& 1) <<< (v4 &&& 31))) = x6
                refine q_RP_let ?_
                show q_RP _ _ _ (136, [(8, .int r5), (7, .int x3), (6, .int x2), (5, .int r1), (0, .ref 66), (1, .int v1), (2, .int v2), (3, .int v3), (4, .int v4)], [.int x6], (q_kN s c n)) _ _
                refine q_RP_seg (g2 := (5, [(4, .int (v4 + 1)), (3, .int x6), (8, .int r5), (7, .int x3), (6, .int x2), (5, .int r1), (0, .ref 66), (1, .int v1), (2, .int v2)], [], (q_kN s c n))) 3 (fun _ _ => rfl) ?_
                exact q_RP_xt (q_xt_mk (q_mn1 6 rfl (q_mn1 7 rfl (q_mn1 8 rfl (q_mn1 1 rfl (q_mn1 0 rfl q_mn0))))) rfl) (hk5 v1 v2 x6 (v4 + 1))
              | false =>
                refine q_RP_cF ?_
                refine q_RP_rsT (g2 := (137, [(7, .int x3), (6, .int x2), (5, .int r1), (0, .ref 66), (1, .int v1), (2, .int v2), (3, .int v3), (4, .int v4)], [], (q_kN s c n))) rfl rfl (q_d_geF h8) ?_
                refine q_RP_seg (g2 := (5, [(4, .int (v4 + 1)), (7, .int x3), (6, .int x2), (5, .int r1), (0, .ref 66), (1, .int v1), (2, .int v2), (3, .int v3)], [], (q_kN s c n))) 2 (fun _ _ => rfl) ?_
                exact q_RP_xt (q_xt_mk (q_mn1 4 rfl (q_mn1 5 rfl (q_mn1 6 rfl (q_mn1 7 rfl (q_mn1 0 rfl q_mn0))))) rfl) (hk5 v1 v2 v3 (v4 + 1))
          | false =>
            refine q_RP_cF ?_
            refine q_RP_rsT (g2 := (137, [(7, .int x3), (6, .int x2), (5, .int r1), (0, .ref 66), (1, .int v1), (2, .int v2), (3, .int v3), (4, .int v4)], [], (q_kN s c n))) rfl rfl (q_d_geF h6) ?_
            refine q_RP_seg (g2 := (5, [(4, .int (v4 + 1)), (7, .int x3), (6, .int x2), (5, .int r1), (0, .ref 66), (1, .int v1), (2, .int v2), (3, .int v3)], [], (q_kN s c n))) 2 (fun _ _ => rfl) ?_
            exact q_RP_xt (q_xt_mk (q_mn1 4 rfl (q_mn1 5 rfl (q_mn1 6 rfl (q_mn1 7 rfl (q_mn1 0 rfl q_mn0))))) rfl) (hk5 v1 v2 v3 (v4 + 1))
      | false =>
        refine q_RP_cF ?_
        refine q_RP_rsT (g2 := (137, [(7, .int x3), (6, .int x2), (5, .int r1), (0, .ref 66), (1, .int v1), (2, .int v2), (3, .int v3), (4, .int v4)], [], (q_kN s c n))) rfl rfl (q_d_neF h4) ?_
        refine q_RP_seg (g2 := (5, [(4, .int (v4 + 1)), (7, .int x3), (6, .int x2), (5, .int r1), (0, .ref 66), (1, .int v1), (2, .int v2), (3, .int v3)], [], (q_kN s c n))) 2 (fun _ _ => rfl) ?_
        exact q_RP_xt (q_xt_mk (q_mn1 4 rfl (q_mn1 5 rfl (q_mn1 6 rfl (q_mn1 7 rfl (q_mn1 0 rfl q_mn0))))) rfl) (hk5 v1 v2 v3 (v4 + 1))
    | false =>
      refine q_RP_cF ?_
      refine q_RP_rsT (g2 := (143, [(0, .ref 66), (1, .int v1), (2, .int v2), (3, .int v3), (4, .int v4)], [], (q_kN s c n))) rfl rfl (q_d_geF h1) ?_
      refine q_RP_seg (g2 := (144, [(0, .ref 66), (1, .int v1), (2, .int v2), (3, .int v3), (4, .int v4)], [.int v3], (q_kN s c n))) 1 (fun _ _ => rfl) ?_
      exact q_RP_ret rfl rfl rfl
def dz_N122_66 (s : q_S) (a1 : Int32) (a2 : Int32) : Option (Int32) :=
  dz_N122_66_5 5000 s a1 a2 0 0
set_option maxHeartbeats 4000000 in
theorem dzt_N122_66 (s : q_S) (c n : Nat) (a1 : Int32) (a2 : Int32) (x : Int32) (h : dz_N122_66 s a1 a2 = some x) : q_Ca q_TB0 2 121 [.ref 66, .int a1, .int a2] (q_kN s c n) ((q_oP (q_kN s c n)) x) := by
  refine q_CaP_of (φ := (q_oP (q_kN s c n))) (Nat.le_of_ble_eq_true rfl) ?_ h
  clear h
  unfold dz_N122_66
  refine q_RP_seg (g2 := (5, [(4, .int 0), (3, .int 0), (0, .ref 66), (1, .int a1), (2, .int a2)], [], (q_kN s c n))) 4 (fun _ _ => rfl) ?_
  exact q_RP_xt (q_xt_mk (q_mn1 2 rfl (q_mn1 3 rfl (q_mn1 4 rfl (q_mn1 1 rfl (q_mn1 0 rfl q_mn0))))) rfl) (dzt_N122_66_5 c n s 5000 a1 a2 0 0)
def dz_N322 (s : q_S) (a0 : Int32) : Int32 :=
  q_let (a0 - (((a0.toUInt32 >>> ((1 : Int32).toUInt32 &&& Int32.toUInt32 31)).toInt32) &&& 1431655765)) fun x1 => q_let ((x1 &&& 858993459) + (((x1.toUInt32 >>> ((2 : Int32).toUInt32 &&& Int32.toUInt32 31)).toInt32) &&& 858993459)) fun x2 => q_let ((x2 + ((x2.toUInt32 >>> ((4 : Int32).toUInt32 &&& Int32.toUInt32 31)).toInt32)) &&& 252645135) fun x3 => q_let (x3 + ((x3.toUInt32 >>> ((8 : Int32).toUInt32 &&& Int32.toUInt32 31)).toInt32)) fun x4 => q_let (x4 + ((x4.toUInt32 >>> ((16 : Int32).toUInt32 &&& Int32.toUInt32 31)).toInt32)) fun x5 => (x5 &&& 63)
set_option maxHeartbeats 4000000 in
theorem dzt_N322 (s : q_S) (c n : Nat) (a0 : Int32) : q_Ca q_TB0 1 321 [.int a0] (q_kN s c n) ((q_oP (q_kN s c n)) (dz_N322 s a0)) := by
  refine q_CaT_of (φ := (q_oP (q_kN s c n))) (Nat.le_of_ble_eq_true rfl) ?_
  unfold dz_N322
  refine q_RT_seg (g2 := (9, [(0, .int a0)], [.int (a0 - (((a0.toUInt32 >>> ((1 : Int32).toUInt32 &&& Int32.toUInt32 31)).toInt32) &&& 1431655765))], (q_kN s c n))) 7 (fun _ _ => rfl) ?_
  generalize (a0 - (((a0.toUInt32 >>> ((1 : Int32).toUInt32 &&& Int32.toUInt32 31)).toInt32) &&& 1431655765)) = x1
  refine q_RT_let ?_
  show q_RT _ _ _ (9, [(0, .int a0)], [.int x1], (q_kN s c n)) _ _
  refine q_RT_seg (g2 := (23, [(0, .int x1)], [.int ((x1 &&& 858993459) + (((x1.toUInt32 >>> ((2 : Int32).toUInt32 &&& Int32.toUInt32 31)).toInt32) &&& 858993459))], (q_kN s c n))) 10 (fun _ _ => rfl) ?_
  generalize ((x1 &&& 858993459) + (((x1.toUInt32 >>> ((2 : Int32).toUInt32 &&& Int32.toUInt32 31)).toInt32) &&& 858993459)) = x2
  refine q_RT_let ?_
  show q_RT _ _ _ (23, [(0, .int x1)], [.int x2], (q_kN s c n)) _ _
  refine q_RT_seg (g2 := (33, [(0, .int x2)], [.int ((x2 + ((x2.toUInt32 >>> ((4 : Int32).toUInt32 &&& Int32.toUInt32 31)).toInt32)) &&& 252645135)], (q_kN s c n))) 8 (fun _ _ => rfl) ?_
  generalize ((x2 + ((x2.toUInt32 >>> ((4 : Int32).toUInt32 &&& Int32.toUInt32 31)).toInt32)) &&& 252645135) = x3
  refine q_RT_let ?_
  show q_RT _ _ _ (33, [(0, .int x2)], [.int x3], (q_kN s c n)) _ _
  refine q_RT_seg (g2 := (40, [(0, .int x3)], [.int (x3 + ((x3.toUInt32 >>> ((8 : Int32).toUInt32 &&& Int32.toUInt32 31)).toInt32))], (q_kN s c n))) 6 (fun _ _ => rfl) ?_
  generalize (x3 + ((x3.toUInt32 >>> ((8 : Int32).toUInt32 &&& Int32.toUInt32 31)).toInt32)) = x4
  refine q_RT_let ?_
  show q_RT _ _ _ (40, [(0, .int x3)], [.int x4], (q_kN s c n)) _ _
  refine q_RT_seg (g2 := (47, [(0, .int x4)], [.int (x4 + ((x4.toUInt32 >>> ((16 : Int32).toUInt32 &&& Int32.toUInt32 31)).toInt32))], (q_kN s c n))) 6 (fun _ _ => rfl) ?_
  generalize (x4 + ((x4.toUInt32 >>> ((16 : Int32).toUInt32 &&& Int32.toUInt32 31)).toInt32)) = x5
  refine q_RT_let ?_
  show q_RT _ _ _ (47, [(0, .int x4)], [.int x5], (q_kN s c n)) _ _
  refine q_RT_seg (g2 := (52, [(0, .int x5)], [.int (x5 &&& 63)], (q_kN s c n))) 4 (fun _ _ => rfl) ?_
  exact q_RT_ret rfl rfl rfl
def dz_N121_66 (s : q_S) (a1 : Int32) : Bool :=
  cond (decide ((s.1 4) 1 = 2)) (cond (decide (a1 < 2)) (false) (true)) (cond (decide (a1 = 1)) (true) (false))
set_option maxHeartbeats 4000000 in
theorem dzt_N121_66 (s : q_S) (c n : Nat) (a1 : Int32) : q_Ca q_TB0 1 120 [.ref 66, .int a1] (q_kN s c n) ((q_oB (q_kN s c n)) (dz_N121_66 s a1)) := by
  refine q_CaT_of (φ := (q_oB (q_kN s c n))) (Nat.le_of_ble_eq_true rfl) ?_
  unfold dz_N121_66
  refine q_RT_seg (g2 := (6, [(0, .ref 66), (1, .int a1)], [.int ((s.1 4) 1)], (q_kN s c n))) 4 (fun _ _ => rfl) ?_
  refine q_RT_seg (g2 := (7, [(0, .ref 66), (1, .int a1)], [.int 2, .int ((s.1 4) 1)], (q_kN s c n))) 1 (fun _ _ => rfl) ?_
  cases h1 : decide ((s.1 4) 1 = 2) with
  | true =>
    refine q_RT_cT ?_
    refine q_RT_rsF (g2 := (10, [(0, .ref 66), (1, .int a1)], [], (q_kN s c n))) rfl rfl (q_d_neT h1) ?_
    refine q_RT_seg (g2 := (12, [(0, .ref 66), (1, .int a1)], [.int 2, .int a1], (q_kN s c n))) 2 (fun _ _ => rfl) ?_
    cases h2 : decide (a1 < 2) with
    | true =>
      refine q_RT_cT ?_
      refine q_RT_rsT (g2 := (19, [(0, .ref 66), (1, .int a1)], [], (q_kN s c n))) rfl rfl h2 ?_
      refine q_RT_seg (g2 := (33, [(0, .ref 66), (1, .int a1)], [.int 0], (q_kN s c n))) 2 (fun _ _ => rfl) ?_
      exact q_RT_ret rfl rfl rfl
    | false =>
      refine q_RT_cF ?_
      refine q_RT_rsF (g2 := (15, [(0, .ref 66), (1, .int a1)], [], (q_kN s c n))) rfl rfl h2 ?_
      refine q_RT_seg (g2 := (33, [(0, .ref 66), (1, .int a1)], [.int 1], (q_kN s c n))) 2 (fun _ _ => rfl) ?_
      exact q_RT_ret rfl rfl rfl
  | false =>
    refine q_RT_cF ?_
    refine q_RT_rsT (g2 := (23, [(0, .ref 66), (1, .int a1)], [], (q_kN s c n))) rfl rfl (q_d_neF h1) ?_
    refine q_RT_seg (g2 := (25, [(0, .ref 66), (1, .int a1)], [.int 1, .int a1], (q_kN s c n))) 2 (fun _ _ => rfl) ?_
    cases h3 : decide (a1 = 1) with
    | true =>
      refine q_RT_cT ?_
      refine q_RT_rsF (g2 := (28, [(0, .ref 66), (1, .int a1)], [], (q_kN s c n))) rfl rfl (q_d_neT h3) ?_
      refine q_RT_seg (g2 := (33, [(0, .ref 66), (1, .int a1)], [.int 1], (q_kN s c n))) 2 (fun _ _ => rfl) ?_
      exact q_RT_ret rfl rfl rfl
    | false =>
      refine q_RT_cF ?_
      refine q_RT_rsT (g2 := (32, [(0, .ref 66), (1, .int a1)], [], (q_kN s c n))) rfl rfl (q_d_neF h3) ?_
      refine q_RT_seg (g2 := (33, [(0, .ref 66), (1, .int a1)], [.int 0], (q_kN s c n))) 1 (fun _ _ => rfl) ?_
      exact q_RT_ret rfl rfl rfl
def dz_N124_66_19 (s : q_S) (v1 : Int32) (v2 : Int32) : q_S :=
  q_let (dz_N121_66 s v1) fun r2 => cond r2 ((q_sA s 4 (upd (s.1 4) 30 (((s.1 4) 30) ||| v2)))) (s)
set_option maxHeartbeats 4000000 in
theorem dzt_N124_66_19 (c n : Nat) (s : q_S) (v1 : Int32) (v2 : Int32) : q_RT q_TB0 1 123 (19, [(0, .ref 66), (1, .int v1), (2, .int v2)], [], (q_kN s c n)) (q_oSN c n) (dz_N124_66_19 s v1 v2) := by
  unfold dz_N124_66_19
  refine q_RT_seg (g2 := (21, [(0, .ref 66), (1, .int v1), (2, .int v2)], [.int v1, .ref 66], (q_kN s c n))) 2 (fun _ _ => rfl) ?_
  refine q_RT_call (v := (some (.int (q_b (dz_N121_66 s v1))))) (h2 := (q_kN s c n)) rfl rfl ((dzt_N121_66 s c n v1).le (Nat.le_of_ble_eq_true rfl)) ?_
  generalize dz_N121_66 s v1 = r2
  refine q_RT_let ?_
  show q_RT _ _ _ (24, [(0, .ref 66), (1, .int v1), (2, .int v2)], [.int (q_b r2)], (q_kN s c n)) _ _
  cases h2 : r2 with
  | true =>
    refine q_RT_cT ?_
    show q_RT _ _ _ (24, [(0, .ref 66), (1, .int v1), (2, .int v2)], [.int 1], (q_kN s c n)) _ _
    refine q_RT_seg (g2 := (35, [(0, .ref 66), (1, .int v1), (2, .int v2)], [.int ((s.1 4) 30), .int 30, .ref 68], (q_kN s c n))) 6 (fun _ _ => rfl) ?_
    refine q_RT_seg (g2 := (38, [(0, .ref 66), (1, .int v1), (2, .int v2)], [], (q_kN (q_sA s 4 (upd (s.1 4) 30 (((s.1 4) 30) ||| v2))) c n))) 3 (fun _ _ => rfl) ?_
    exact q_RT_ret rfl rfl rfl
  | false =>
    refine q_RT_cF ?_
    show q_RT _ _ _ (24, [(0, .ref 66), (1, .int v1), (2, .int v2)], [.int 0], (q_kN s c n)) _ _
    refine q_RT_seg (g2 := (38, [(0, .ref 66), (1, .int v1), (2, .int v2)], [], (q_kN s c n))) 1 (fun _ _ => rfl) ?_
    exact q_RT_ret rfl rfl rfl
def dz_N124_66 (s : q_S) (a1 : Int32) (a2 : Int32) : q_S :=
  q_let (dz_N322 s a2) fun r1 => cond (decide (1 < r1)) (dz_N124_66_19 (q_sA s 4 (upd (s.1 4) 29 (((s.1 4) 29) ||| a2))) a1 a2) (dz_N124_66_19 s a1 a2)
set_option maxHeartbeats 4000000 in
theorem dzt_N124_66 (s : q_S) (c n : Nat) (a1 : Int32) (a2 : Int32) : q_Ca q_TB0 2 123 [.ref 66, .int a1, .int a2] (q_kN s c n) ((q_oSN c n) (dz_N124_66 s a1 a2)) := by
  refine q_CaT_of (φ := (q_oSN c n)) (Nat.le_of_ble_eq_true rfl) ?_
  unfold dz_N124_66
  refine q_RT_seg (g2 := (1, [(0, .ref 66), (1, .int a1), (2, .int a2)], [.int a2], (q_kN s c n))) 1 (fun _ _ => rfl) ?_
  refine q_RT_call (v := (some (.int (dz_N322 s a2)))) (h2 := (q_kN s c n)) rfl rfl ((dzt_N322 s c n a2).le (Nat.le_of_ble_eq_true rfl)) ?_
  generalize dz_N322 s a2 = r1
  refine q_RT_let ?_
  show q_RT _ _ _ (4, [(0, .ref 66), (1, .int a1), (2, .int a2)], [.int r1], (q_kN s c n)) _ _
  refine q_RT_seg (g2 := (5, [(0, .ref 66), (1, .int a1), (2, .int a2)], [.int 1, .int r1], (q_kN s c n))) 1 (fun _ _ => rfl) ?_
  cases h1 : decide (1 < r1) with
  | true =>
    refine q_RT_cT ?_
    refine q_RT_rsF (g2 := (8, [(0, .ref 66), (1, .int a1), (2, .int a2)], [], (q_kN s c n))) rfl rfl (q_d_geT h1) ?_
    refine q_RT_seg (g2 := (16, [(0, .ref 66), (1, .int a1), (2, .int a2)], [.int ((s.1 4) 29), .int 29, .ref 68], (q_kN s c n))) 5 (fun _ _ => rfl) ?_
    refine q_RT_seg (g2 := (19, [(0, .ref 66), (1, .int a1), (2, .int a2)], [], (q_kN (q_sA s 4 (upd (s.1 4) 29 (((s.1 4) 29) ||| a2))) c n))) 3 (fun _ _ => rfl) ?_
    exact (dzt_N124_66_19 c n (q_sA s 4 (upd (s.1 4) 29 (((s.1 4) 29) ||| a2))) a1 a2)
  | false =>
    refine q_RT_cF ?_
    refine q_RT_rsT (g2 := (19, [(0, .ref 66), (1, .int a1), (2, .int a2)], [], (q_kN s c n))) rfl rfl (q_d_geF h1) ?_
    exact (dzt_N124_66_19 c n s a1 a2)
def dz_N123_66_39 (s : q_S) (v1 : Int32) (v3 : Int32) : Option (Int32) :=
  some ((((s.1 4) 28) + v3) - (((s.1 4) 28) + v3) / 16 * 16)
set_option maxHeartbeats 4000000 in
theorem dzt_N123_66_39 (c n : Nat) (s : q_S) (v1 : Int32) (v3 : Int32) : q_RP q_TB0 1 122 (39, [(0, .ref 66), (1, .int v1), (3, .int v3)], [], (q_kN s c n)) (q_oP (q_kN s c n)) (dz_N123_66_39 s v1 v3) := by
  unfold dz_N123_66_39
  refine q_RP_seg (g2 := (67, [(4, .int 0), (0, .ref 66), (1, .int v1), (3, .int v3)], [.int ((s.1 4) 28)], (q_kN s c n))) 8 (fun _ _ => rfl) ?_
  refine q_RP_seg (g2 := (72, [(4, .int 0), (0, .ref 66), (1, .int v1), (3, .int v3)], [.int ((((s.1 4) 28) + v3) - (((s.1 4) 28) + v3) / 16 * 16)], (q_kN s c n))) 4 (fun _ _ => rfl) ?_
  exact q_RP_ret rfl rfl rfl
def dz_N123_66_2 (m : Nat) : q_S → Int32 → Int32 → Int32 → Option (Int32) := Nat.rec (motive := fun _ => q_S → Int32 → Int32 → Int32 → Option (Int32)) (fun _ _ _ _ => none) (fun _ k2 s v1 v2 v3 =>
  cond (decide (v3 < 4)) (cond (decide ((v2 >>> (v3 &&& 31)) &&& 1 = 1)) (q_let (dz_N118_66 s 19 v3) fun r1 => cond (decide (r1 = 1)) (q_let (dz_N121_66 s v1) fun r2 => cond r2 (cond (q_in ((3 : Int32) + (v1 &&& 3)) 48) (some ((s.1 4) (((3 : Int32) + (v1 &&& 3)).toNatClampNeg))) none) (dz_N123_66_39 s v1 v3)) (dz_N123_66_39 s v1 v3)) (k2 s v1 v2 (v3 + 1))) (cond (q_in ((3 : Int32) + (v1 &&& 3)) 48) (some ((s.1 4) (((3 : Int32) + (v1 &&& 3)).toNatClampNeg))) none)) m
theorem dzs_N123_66_2 (m : Nat) (s : q_S) (v1 : Int32) (v2 : Int32) (v3 : Int32) : dz_N123_66_2 (m + 1) s v1 v2 v3 = (fun k2 : q_S → Int32 → Int32 → Int32 → Option (Int32) =>
  cond (decide (v3 < 4)) (cond (decide ((v2 >>> (v3 &&& 31)) &&& 1 = 1)) (q_let (dz_N118_66 s 19 v3) fun r1 => cond (decide (r1 = 1)) (q_let (dz_N121_66 s v1) fun r2 => cond r2 (cond (q_in ((3 : Int32) + (v1 &&& 3)) 48) (some ((s.1 4) (((3 : Int32) + (v1 &&& 3)).toNatClampNeg))) none) (dz_N123_66_39 s v1 v3)) (dz_N123_66_39 s v1 v3)) (k2 s v1 v2 (v3 + 1))) (cond (q_in ((3 : Int32) + (v1 &&& 3)) 48) (some ((s.1 4) (((3 : Int32) + (v1 &&& 3)).toNatClampNeg))) none)) (dz_N123_66_2 m) := rfl
set_option maxHeartbeats 4000000 in
theorem dzt_N123_66_2 (c n : Nat) (s : q_S) : ∀ (m : Nat) (v1 : Int32) (v2 : Int32) (v3 : Int32), q_RP q_TB0 1 122 (2, [(0, .ref 66), (1, .int v1), (2, .int v2), (3, .int v3)], [], (q_kN s c n)) (q_oP (q_kN s c n)) (dz_N123_66_2 m s v1 v2 v3) := by
  intro m
  induction m with
  | zero => intro v1 v2 v3; exact q_RP_no
  | succ m ih =>
    intro v1 v2 v3
    have hk2 := ih
    clear ih
    rw [dzs_N123_66_2]
    generalize dz_N123_66_2 m = k2 at hk2 ⊢
    dsimp only
    refine q_RP_seg (g2 := (4, [(0, .ref 66), (1, .int v1), (2, .int v2), (3, .int v3)], [.int 4, .int v3], (q_kN s c n))) 2 (fun _ _ => rfl) ?_
    cases h1 : decide (v3 < 4) with
    | true =>
      refine q_RP_cT ?_
      refine q_RP_rsF (g2 := (7, [(0, .ref 66), (1, .int v1), (2, .int v2), (3, .int v3)], [], (q_kN s c n))) rfl rfl (q_d_geT h1) ?_
      refine q_RP_seg (g2 := (13, [(0, .ref 66), (1, .int v1), (2, .int v2), (3, .int v3)], [.int 1, .int ((v2 >>> (v3 &&& 31)) &&& 1)], (q_kN s c n))) 6 (fun _ _ => rfl) ?_
      cases h2 : decide ((v2 >>> (v3 &&& 31)) &&& 1 = 1) with
      | true =>
        refine q_RP_cT ?_
        refine q_RP_rsF (g2 := (16, [(0, .ref 66), (1, .int v1), (2, .int v2), (3, .int v3)], [], (q_kN s c n))) rfl rfl (q_d_neT h2) ?_
        refine q_RP_seg (g2 := (20, [(0, .ref 66), (1, .int v1), (2, .int v2), (3, .int v3)], [.int v3, .int 19, .ref 66], (q_kN s c n))) 3 (fun _ _ => rfl) ?_
        refine q_RP_call (v := (some (.int (dz_N118_66 s 19 v3)))) (h2 := (q_kN s c n)) rfl rfl ((dzt_N118_66 s c n 19 v3).le (Nat.le_of_ble_eq_true rfl)) ?_
        generalize dz_N118_66 s 19 v3 = r1
        refine q_RP_let ?_
        show q_RP _ _ _ (23, [(0, .ref 66), (1, .int v1), (2, .int v2), (3, .int v3)], [.int r1], (q_kN s c n)) _ _
        refine q_RP_seg (g2 := (24, [(0, .ref 66), (1, .int v1), (2, .int v2), (3, .int v3)], [.int 1, .int r1], (q_kN s c n))) 1 (fun _ _ => rfl) ?_
        cases h3 : decide (r1 = 1) with
        | true =>
          refine q_RP_cT ?_
          refine q_RP_rsF (g2 := (27, [(0, .ref 66), (1, .int v1), (2, .int v2), (3, .int v3)], [], (q_kN s c n))) rfl rfl (q_d_neT h3) ?_
          refine q_RP_seg (g2 := (29, [(0, .ref 66), (1, .int v1), (2, .int v2), (3, .int v3)], [.int v1, .ref 66], (q_kN s c n))) 2 (fun _ _ => rfl) ?_
          refine q_RP_call (v := (some (.int (q_b (dz_N121_66 s v1))))) (h2 := (q_kN s c n)) rfl rfl ((dzt_N121_66 s c n v1).le (Nat.le_of_ble_eq_true rfl)) ?_
          generalize dz_N121_66 s v1 = r2
          refine q_RP_let ?_
          show q_RP _ _ _ (32, [(0, .ref 66), (1, .int v1), (2, .int v2), (3, .int v3)], [.int (q_b r2)], (q_kN s c n)) _ _
          cases h4 : r2 with
          | true =>
            refine q_RP_cT ?_
            show q_RP _ _ _ (32, [(0, .ref 66), (1, .int v1), (2, .int v2), (3, .int v3)], [.int 1], (q_kN s c n)) _ _
            refine q_RP_seg (g2 := (56, [(4, .int 1), (0, .ref 66), (1, .int v1), (2, .int v2), (3, .int v3)], [.int ((3 : Int32) + (v1 &&& 3)), .ref 68], (q_kN s c n))) 13 (fun _ _ => rfl) ?_
            refine q_RP_as fun i5 => ?_
            refine q_RP_rsT (g2 := (57, [(4, .int 1), (0, .ref 66), (1, .int v1), (2, .int v2), (3, .int v3)], [.int ((s.1 4) (((3 : Int32) + (v1 &&& 3)).toNatClampNeg))], (q_kN s c n))) rfl rfl i5 ?_
            refine q_RP_seg (g2 := (72, [(4, .int 1), (0, .ref 66), (1, .int v1), (2, .int v2), (3, .int v3)], [.int ((s.1 4) (((3 : Int32) + (v1 &&& 3)).toNatClampNeg))], (q_kN s c n))) 1 (fun _ _ => rfl) ?_
            exact q_RP_ret rfl rfl rfl
          | false =>
            refine q_RP_cF ?_
            show q_RP _ _ _ (32, [(0, .ref 66), (1, .int v1), (2, .int v2), (3, .int v3)], [.int 0], (q_kN s c n)) _ _
            refine q_RP_seg (g2 := (39, [(0, .ref 66), (1, .int v1), (2, .int v2), (3, .int v3)], [], (q_kN s c n))) 1 (fun _ _ => rfl) ?_
            exact q_RP_xt (q_xt_mk (q_mn1 0 rfl (q_mn1 1 rfl (q_mn1 3 rfl q_mn0))) rfl) (dzt_N123_66_39 c n s v1 v3)
        | false =>
          refine q_RP_cF ?_
          refine q_RP_rsT (g2 := (39, [(0, .ref 66), (1, .int v1), (2, .int v2), (3, .int v3)], [], (q_kN s c n))) rfl rfl (q_d_neF h3) ?_
          exact q_RP_xt (q_xt_mk (q_mn1 0 rfl (q_mn1 1 rfl (q_mn1 3 rfl q_mn0))) rfl) (dzt_N123_66_39 c n s v1 v3)
      | false =>
        refine q_RP_cF ?_
        refine q_RP_rsT (g2 := (73, [(0, .ref 66), (1, .int v1), (2, .int v2), (3, .int v3)], [], (q_kN s c n))) rfl rfl (q_d_neF h2) ?_
        refine q_RP_seg (g2 := (2, [(3, .int (v3 + 1)), (0, .ref 66), (1, .int v1), (2, .int v2)], [], (q_kN s c n))) 2 (fun _ _ => rfl) ?_
        exact q_RP_xt (q_xt_mk (q_mn1 1 rfl (q_mn1 2 rfl (q_mn1 3 rfl (q_mn1 0 rfl q_mn0)))) rfl) (hk2 v1 v2 (v3 + 1))
    | false =>
      refine q_RP_cF ?_
      refine q_RP_rsT (g2 := (79, [(0, .ref 66), (1, .int v1), (2, .int v2), (3, .int v3)], [], (q_kN s c n))) rfl rfl (q_d_geF h1) ?_
      refine q_RP_seg (g2 := (88, [(0, .ref 66), (1, .int v1), (2, .int v2), (3, .int v3)], [.int ((3 : Int32) + (v1 &&& 3)), .ref 68], (q_kN s c n))) 7 (fun _ _ => rfl) ?_
      refine q_RP_as fun i6 => ?_
      refine q_RP_rsT (g2 := (89, [(0, .ref 66), (1, .int v1), (2, .int v2), (3, .int v3)], [.int ((s.1 4) (((3 : Int32) + (v1 &&& 3)).toNatClampNeg))], (q_kN s c n))) rfl rfl i6 ?_
      exact q_RP_ret rfl rfl rfl
def dz_N123_66 (s : q_S) (a1 : Int32) (a2 : Int32) : Option (Int32) :=
  dz_N123_66_2 5000 s a1 a2 0
set_option maxHeartbeats 4000000 in
theorem dzt_N123_66 (s : q_S) (c n : Nat) (a1 : Int32) (a2 : Int32) (x : Int32) (h : dz_N123_66 s a1 a2 = some x) : q_Ca q_TB0 2 122 [.ref 66, .int a1, .int a2] (q_kN s c n) ((q_oP (q_kN s c n)) x) := by
  refine q_CaP_of (φ := (q_oP (q_kN s c n))) (Nat.le_of_ble_eq_true rfl) ?_ h
  clear h
  unfold dz_N123_66
  refine q_RP_seg (g2 := (2, [(3, .int 0), (0, .ref 66), (1, .int a1), (2, .int a2)], [], (q_kN s c n))) 2 (fun _ _ => rfl) ?_
  exact q_RP_xt (q_xt_mk (q_mn1 1 rfl (q_mn1 2 rfl (q_mn1 3 rfl (q_mn1 0 rfl q_mn0)))) rfl) (dzt_N123_66_2 c n s 5000 a1 a2 0)
def dz_N103_65_95_47 (m : Nat) : q_S → Int32 → Int32 → Int32 → Option (q_S) := Nat.rec (motive := fun _ => q_S → Int32 → Int32 → Int32 → Option (q_S)) (fun _ _ _ _ => none) (fun _ k47 s v2 v4 v5 =>
  cond (decide (v4 + 1 < v5)) (cond (decide (lg_cmp (((s.2.2 1 8) / 960) - ((s.2.2 1 8) / 960) / 2 * 2) 0 = 0)) (some (q_sI s 13 3 ((s.2.1 13 3) + 1))) (some (q_sI s 18 3 ((s.2.1 18 3) + 1)))) (q_let (dz_N119_66 s v5 v2) fun r3 => (dz_N122_66 s v5 v2).bind fun r4 => q_let (dz_N124_66 s r3 r4) fun r5 => (dz_N123_66 r5 r3 r4).bind fun r6 => k47 (q_sA r5 31 (upd (r5.1 31) ((((32 * v2) + v5) &&& 1023).toNatClampNeg) r6)) v2 v4 (v5 + 1))) m
theorem dzs_N103_65_95_47 (m : Nat) (s : q_S) (v2 : Int32) (v4 : Int32) (v5 : Int32) : dz_N103_65_95_47 (m + 1) s v2 v4 v5 = (fun k47 : q_S → Int32 → Int32 → Int32 → Option (q_S) =>
  cond (decide (v4 + 1 < v5)) (cond (decide (lg_cmp (((s.2.2 1 8) / 960) - ((s.2.2 1 8) / 960) / 2 * 2) 0 = 0)) (some (q_sI s 13 3 ((s.2.1 13 3) + 1))) (some (q_sI s 18 3 ((s.2.1 18 3) + 1)))) (q_let (dz_N119_66 s v5 v2) fun r3 => (dz_N122_66 s v5 v2).bind fun r4 => q_let (dz_N124_66 s r3 r4) fun r5 => (dz_N123_66 r5 r3 r4).bind fun r6 => k47 (q_sA r5 31 (upd (r5.1 31) ((((32 * v2) + v5) &&& 1023).toNatClampNeg) r6)) v2 v4 (v5 + 1))) (dz_N103_65_95_47 m) := rfl
set_option maxHeartbeats 4000000 in
theorem dzt_N103_65_95_47 (c n : Nat) : ∀ (m : Nat) (s : q_S) (v2 : Int32) (v4 : Int32) (v5 : Int32), q_RP q_TB0 2 102 (47, [(0, .ref 65), (1, .ref 95), (2, .int v2), (4, .int v4), (5, .int v5)], [], (q_kN s c n)) (q_oSN c n) (dz_N103_65_95_47 m s v2 v4 v5) := by
  intro m
  induction m with
  | zero => intro s v2 v4 v5; exact q_RP_no
  | succ m ih =>
    intro s v2 v4 v5
    have hk47 := ih
    clear ih
    rw [dzs_N103_65_95_47]
    generalize dz_N103_65_95_47 m = k47 at hk47 ⊢
    dsimp only
    refine q_RP_seg (g2 := (53, [(0, .ref 65), (1, .ref 95), (2, .int v2), (4, .int v4), (5, .int v5)], [.int (v4 + 1), .int v5], (q_kN s c n))) 4 (fun _ _ => rfl) ?_
    cases h8 : decide (v4 + 1 < v5) with
    | true =>
      refine q_RP_cT ?_
      refine q_RP_rsT (g2 := (121, [(0, .ref 65), (1, .ref 95), (2, .int v2), (4, .int v4), (5, .int v5)], [], (q_kN s c n))) rfl rfl h8 ?_
      refine q_RP_seg (g2 := (122, [(0, .ref 65), (1, .ref 95), (2, .int v2), (4, .int v4), (5, .int v5)], [.ref 65], (q_kN s c n))) 1 (fun _ _ => rfl) ?_
      cases h9 : decide (lg_cmp (((s.2.2 1 8) / 960) - ((s.2.2 1 8) / 960) / 2 * 2) 0 = 0) with
      | true =>
        refine q_RP_cT ?_
        refine q_RP_call (v := (some (.ref 77))) (h2 := (q_kN s c n)) rfl rfl ?_ ?_
        · refine q_Ca_of (Nat.le_of_ble_eq_true rfl) ?_
          refine q_Ru_seg (g2 := (14, [(0, .ref 65)], [.int (lg_cmp (((s.2.2 1 8) / 960) - ((s.2.2 1 8) / 960) / 2 * 2) 0)], (q_kN s c n))) 8 (fun _ _ => rfl) ?_
          refine q_Ru_rsF (g2 := (17, [(0, .ref 65)], [], (q_kN s c n))) rfl rfl (q_d_neT h9) ?_
          refine q_Ru_seg (g2 := (28, [(0, .ref 65)], [.ref 77], (q_kN s c n))) 3 (fun _ _ => rfl) ?_
          exact q_Ru_ret rfl rfl
        show q_RP _ _ _ (125, [(0, .ref 65), (1, .ref 95), (2, .int v2), (4, .int v4), (5, .int v5)], [.ref 77], (q_kN s c n)) _ _
        refine q_RP_seg (g2 := (129, [(0, .ref 65), (1, .ref 95), (2, .int v2), (4, .int v4), (5, .int v5)], [.int (s.2.1 13 3), .ref 77], (q_kN s c n))) 2 (fun _ _ => rfl) ?_
        refine q_RP_seg (g2 := (134, [(0, .ref 65), (1, .ref 95), (2, .int v2), (4, .int v4), (5, .int v5)], [], (q_kN (q_sI s 13 3 ((s.2.1 13 3) + 1)) c n))) 3 (fun _ _ => rfl) ?_
        exact q_RP_ret rfl rfl rfl
      | false =>
        refine q_RP_cF ?_
        refine q_RP_call (v := (some (.ref 82))) (h2 := (q_kN s c n)) rfl rfl ?_ ?_
        · refine q_Ca_of (Nat.le_of_ble_eq_true rfl) ?_
          refine q_Ru_seg (g2 := (14, [(0, .ref 65)], [.int (lg_cmp (((s.2.2 1 8) / 960) - ((s.2.2 1 8) / 960) / 2 * 2) 0)], (q_kN s c n))) 8 (fun _ _ => rfl) ?_
          refine q_Ru_rsT (g2 := (24, [(0, .ref 65)], [], (q_kN s c n))) rfl rfl (q_d_neF h9) ?_
          refine q_Ru_seg (g2 := (28, [(0, .ref 65)], [.ref 82], (q_kN s c n))) 2 (fun _ _ => rfl) ?_
          exact q_Ru_ret rfl rfl
        show q_RP _ _ _ (125, [(0, .ref 65), (1, .ref 95), (2, .int v2), (4, .int v4), (5, .int v5)], [.ref 82], (q_kN s c n)) _ _
        refine q_RP_seg (g2 := (129, [(0, .ref 65), (1, .ref 95), (2, .int v2), (4, .int v4), (5, .int v5)], [.int (s.2.1 18 3), .ref 82], (q_kN s c n))) 2 (fun _ _ => rfl) ?_
        refine q_RP_seg (g2 := (134, [(0, .ref 65), (1, .ref 95), (2, .int v2), (4, .int v4), (5, .int v5)], [], (q_kN (q_sI s 18 3 ((s.2.1 18 3) + 1)) c n))) 3 (fun _ _ => rfl) ?_
        exact q_RP_ret rfl rfl rfl
    | false =>
      refine q_RP_cF ?_
      refine q_RP_rsF (g2 := (56, [(0, .ref 65), (1, .ref 95), (2, .int v2), (4, .int v4), (5, .int v5)], [], (q_kN s c n))) rfl rfl h8 ?_
      refine q_RP_seg (g2 := (63, [(0, .ref 65), (1, .ref 95), (2, .int v2), (4, .int v4), (5, .int v5)], [.int v2, .int v5, .ref 66], (q_kN s c n))) 4 (fun _ _ => rfl) ?_
      refine q_RP_call (v := (some (.int (dz_N119_66 s v5 v2)))) (h2 := (q_kN s c n)) rfl rfl ((dzt_N119_66 s c n v5 v2).le (Nat.le_of_ble_eq_true rfl)) ?_
      generalize dz_N119_66 s v5 v2 = r3
      refine q_RP_let ?_
      show q_RP _ _ _ (66, [(0, .ref 65), (1, .ref 95), (2, .int v2), (4, .int v4), (5, .int v5)], [.int r3], (q_kN s c n)) _ _
      refine q_RP_seg (g2 := (75, [(6, .int r3), (0, .ref 65), (1, .ref 95), (2, .int v2), (4, .int v4), (5, .int v5)], [.int v2, .int v5, .ref 66], (q_kN s c n))) 5 (fun _ _ => rfl) ?_
      refine q_RP_bd fun r4 er4 => ?_
      refine q_RP_call (v := (some (.int r4))) (h2 := (q_kN s c n)) rfl rfl ((dzt_N122_66 s c n v5 v2 r4 er4).le (Nat.le_of_ble_eq_true rfl)) ?_
      show q_RP _ _ _ (78, [(6, .int r3), (0, .ref 65), (1, .ref 95), (2, .int v2), (4, .int v4), (5, .int v5)], [.int r4], (q_kN s c n)) _ _
      refine q_RP_seg (g2 := (88, [(7, .int r4), (6, .int r3), (0, .ref 65), (1, .ref 95), (2, .int v2), (4, .int v4), (5, .int v5)], [.int r4, .int r3, .ref 66], (q_kN s c n))) 5 (fun _ _ => rfl) ?_
      refine q_RP_call (v := none) (h2 := (q_kN (dz_N124_66 s r3 r4) c n)) rfl rfl ((dzt_N124_66 s c n r3 r4).le (Nat.le_of_ble_eq_true rfl)) ?_
      generalize dz_N124_66 s r3 r4 = r5
      refine q_RP_let ?_
      show q_RP _ _ _ (91, [(7, .int r4), (6, .int r3), (0, .ref 65), (1, .ref 95), (2, .int v2), (4, .int v4), (5, .int v5)], [], (q_kN r5 c n)) _ _
      refine q_RP_seg (g2 := (111, [(7, .int r4), (6, .int r3), (0, .ref 65), (1, .ref 95), (2, .int v2), (4, .int v4), (5, .int v5)], [.int r4, .int r3, .ref 66, .int (((32 * v2) + v5) &&& 1023), .ref 95], (q_kN r5 c n))) 12 (fun _ _ => rfl) ?_
      refine q_RP_bd fun r6 er6 => ?_
      refine q_RP_call (v := (some (.int r6))) (h2 := (q_kN r5 c n)) rfl rfl ((dzt_N123_66 r5 c n r3 r4 r6 er6).le (Nat.le_of_ble_eq_true rfl)) ?_
      show q_RP _ _ _ (114, [(7, .int r4), (6, .int r3), (0, .ref 65), (1, .ref 95), (2, .int v2), (4, .int v4), (5, .int v5)], [.int r6, .int (((32 * v2) + v5) &&& 1023), .ref 95], (q_kN r5 c n)) _ _
      refine q_RP_rsT (g2 := (115, [(7, .int r4), (6, .int r3), (0, .ref 65), (1, .ref 95), (2, .int v2), (4, .int v4), (5, .int v5)], [], (q_kN (q_sA r5 31 (upd (r5.1 31) ((((32 * v2) + v5) &&& 1023).toNatClampNeg) r6)) c n))) rfl rfl (q_in_bd (x := ((32 * v2) + v5) &&& 1023) (n := 1024) (U := 1023) (L := 0) (q_and_lo ((32 * v2) + v5) 1023) (q_and_hi ((32 * v2) + v5) 1023 1023)) ?_
      refine q_RP_seg (g2 := (47, [(5, .int (v5 + 1)), (7, .int r4), (6, .int r3), (0, .ref 65), (1, .ref 95), (2, .int v2), (4, .int v4)], [], (q_kN (q_sA r5 31 (upd (r5.1 31) ((((32 * v2) + v5) &&& 1023).toNatClampNeg) r6)) c n))) 2 (fun _ _ => rfl) ?_
      exact q_RP_xt (q_xt_mk (q_mn1 3 rfl (q_mn1 4 rfl (q_mn1 5 rfl (q_mn1 6 rfl (q_mn1 0 rfl q_mn0))))) rfl) (hk47 (q_sA r5 31 (upd (r5.1 31) ((((32 * v2) + v5) &&& 1023).toNatClampNeg) r6)) v2 v4 (v5 + 1))
def dz_N103_65_95 (s : q_S) : Option (q_S) :=
  q_let (dz_N86_65 s) fun r1 => q_let (dz_N87_65 s) fun r2 => cond (decide ((r1 / 24) - 4 < 0)) (cond (decide (lg_cmp (((s.2.2 1 8) / 960) - ((s.2.2 1 8) / 960) / 2 * 2) 0 = 0)) (some (q_sI s 13 3 ((s.2.1 13 3) + 1))) (some (q_sI s 18 3 ((s.2.1 18 3) + 1)))) (cond (decide ((r1 / 24) - 4 < 32)) (cond (decide (r2 < 4)) (cond (decide (lg_cmp (((s.2.2 1 8) / 960) - ((s.2.2 1 8) / 960) / 2 * 2) 0 = 0)) (some (q_sI s 13 3 ((s.2.1 13 3) + 1))) (some (q_sI s 18 3 ((s.2.1 18 3) + 1)))) (cond (decide (19 < r2)) (cond (decide (lg_cmp (((s.2.2 1 8) / 960) - ((s.2.2 1 8) / 960) / 2 * 2) 0 = 0)) (some (q_sI s 13 3 ((s.2.1 13 3) + 1))) (some (q_sI s 18 3 ((s.2.1 18 3) + 1)))) (dz_N103_65_95_47 5000 s ((r1 / 24) - 4) (2 * (r2 - 4)) (2 * (r2 - 4))))) (cond (decide (lg_cmp (((s.2.2 1 8) / 960) - ((s.2.2 1 8) / 960) / 2 * 2) 0 = 0)) (some (q_sI s 13 3 ((s.2.1 13 3) + 1))) (some (q_sI s 18 3 ((s.2.1 18 3) + 1)))))
set_option maxHeartbeats 4000000 in
theorem dzt_N103_65_95 (s : q_S) (c n : Nat) (x : q_S) (h : dz_N103_65_95 s = some x) : q_Ca q_TB0 3 102 [.ref 65, .ref 95] (q_kN s c n) ((q_oSN c n) x) := by
  refine q_CaP_of (φ := (q_oSN c n)) (Nat.le_of_ble_eq_true rfl) ?_ h
  clear h
  unfold dz_N103_65_95
  refine q_RP_seg (g2 := (1, [(0, .ref 65), (1, .ref 95)], [.ref 65], (q_kN s c n))) 1 (fun _ _ => rfl) ?_
  refine q_RP_call (v := (some (.int (dz_N86_65 s)))) (h2 := (q_kN s c n)) rfl rfl ((dzt_N86_65 s c n).le (Nat.le_of_ble_eq_true rfl)) ?_
  generalize dz_N86_65 s = r1
  refine q_RP_let ?_
  show q_RP _ _ _ (4, [(0, .ref 65), (1, .ref 95)], [.int r1], (q_kN s c n)) _ _
  refine q_RP_seg (g2 := (11, [(2, .int ((r1 / 24) - 4)), (0, .ref 65), (1, .ref 95)], [.ref 65], (q_kN s c n))) 6 (fun _ _ => rfl) ?_
  refine q_RP_call (v := (some (.int (dz_N87_65 s)))) (h2 := (q_kN s c n)) rfl rfl ((dzt_N87_65 s c n).le (Nat.le_of_ble_eq_true rfl)) ?_
  generalize dz_N87_65 s = r2
  refine q_RP_let ?_
  show q_RP _ _ _ (14, [(2, .int ((r1 / 24) - 4)), (0, .ref 65), (1, .ref 95)], [.int r2], (q_kN s c n)) _ _
  refine q_RP_seg (g2 := (16, [(3, .int r2), (2, .int ((r1 / 24) - 4)), (0, .ref 65), (1, .ref 95)], [.int ((r1 / 24) - 4)], (q_kN s c n))) 2 (fun _ _ => rfl) ?_
  cases h1 : decide ((r1 / 24) - 4 < 0) with
  | true =>
    refine q_RP_cT ?_
    refine q_RP_rsT (g2 := (121, [(3, .int r2), (2, .int ((r1 / 24) - 4)), (0, .ref 65), (1, .ref 95)], [], (q_kN s c n))) rfl rfl h1 ?_
    refine q_RP_seg (g2 := (122, [(3, .int r2), (2, .int ((r1 / 24) - 4)), (0, .ref 65), (1, .ref 95)], [.ref 65], (q_kN s c n))) 1 (fun _ _ => rfl) ?_
    cases h2 : decide (lg_cmp (((s.2.2 1 8) / 960) - ((s.2.2 1 8) / 960) / 2 * 2) 0 = 0) with
    | true =>
      refine q_RP_cT ?_
      refine q_RP_call (v := (some (.ref 77))) (h2 := (q_kN s c n)) rfl rfl ?_ ?_
      · refine q_Ca_of (Nat.le_of_ble_eq_true rfl) ?_
        refine q_Ru_seg (g2 := (14, [(0, .ref 65)], [.int (lg_cmp (((s.2.2 1 8) / 960) - ((s.2.2 1 8) / 960) / 2 * 2) 0)], (q_kN s c n))) 8 (fun _ _ => rfl) ?_
        refine q_Ru_rsF (g2 := (17, [(0, .ref 65)], [], (q_kN s c n))) rfl rfl (q_d_neT h2) ?_
        refine q_Ru_seg (g2 := (28, [(0, .ref 65)], [.ref 77], (q_kN s c n))) 3 (fun _ _ => rfl) ?_
        exact q_Ru_ret rfl rfl
      show q_RP _ _ _ (125, [(3, .int r2), (2, .int ((r1 / 24) - 4)), (0, .ref 65), (1, .ref 95)], [.ref 77], (q_kN s c n)) _ _
      refine q_RP_seg (g2 := (129, [(3, .int r2), (2, .int ((r1 / 24) - 4)), (0, .ref 65), (1, .ref 95)], [.int (s.2.1 13 3), .ref 77], (q_kN s c n))) 2 (fun _ _ => rfl) ?_
      refine q_RP_seg (g2 := (134, [(3, .int r2), (2, .int ((r1 / 24) - 4)), (0, .ref 65), (1, .ref 95)], [], (q_kN (q_sI s 13 3 ((s.2.1 13 3) + 1)) c n))) 3 (fun _ _ => rfl) ?_
      exact q_RP_ret rfl rfl rfl
    | false =>
      refine q_RP_cF ?_
      refine q_RP_call (v := (some (.ref 82))) (h2 := (q_kN s c n)) rfl rfl ?_ ?_
      · refine q_Ca_of (Nat.le_of_ble_eq_true rfl) ?_
        refine q_Ru_seg (g2 := (14, [(0, .ref 65)], [.int (lg_cmp (((s.2.2 1 8) / 960) - ((s.2.2 1 8) / 960) / 2 * 2) 0)], (q_kN s c n))) 8 (fun _ _ => rfl) ?_
        refine q_Ru_rsT (g2 := (24, [(0, .ref 65)], [], (q_kN s c n))) rfl rfl (q_d_neF h2) ?_
        refine q_Ru_seg (g2 := (28, [(0, .ref 65)], [.ref 82], (q_kN s c n))) 2 (fun _ _ => rfl) ?_
        exact q_Ru_ret rfl rfl
      show q_RP _ _ _ (125, [(3, .int r2), (2, .int ((r1 / 24) - 4)), (0, .ref 65), (1, .ref 95)], [.ref 82], (q_kN s c n)) _ _
      refine q_RP_seg (g2 := (129, [(3, .int r2), (2, .int ((r1 / 24) - 4)), (0, .ref 65), (1, .ref 95)], [.int (s.2.1 18 3), .ref 82], (q_kN s c n))) 2 (fun _ _ => rfl) ?_
      refine q_RP_seg (g2 := (134, [(3, .int r2), (2, .int ((r1 / 24) - 4)), (0, .ref 65), (1, .ref 95)], [], (q_kN (q_sI s 18 3 ((s.2.1 18 3) + 1)) c n))) 3 (fun _ _ => rfl) ?_
      exact q_RP_ret rfl rfl rfl
  | false =>
    refine q_RP_cF ?_
    refine q_RP_rsF (g2 := (19, [(3, .int r2), (2, .int ((r1 / 24) - 4)), (0, .ref 65), (1, .ref 95)], [], (q_kN s c n))) rfl rfl h1 ?_
    refine q_RP_seg (g2 := (22, [(3, .int r2), (2, .int ((r1 / 24) - 4)), (0, .ref 65), (1, .ref 95)], [.int 32, .int ((r1 / 24) - 4)], (q_kN s c n))) 2 (fun _ _ => rfl) ?_
    cases h3 : decide ((r1 / 24) - 4 < 32) with
    | true =>
      refine q_RP_cT ?_
      refine q_RP_rsF (g2 := (25, [(3, .int r2), (2, .int ((r1 / 24) - 4)), (0, .ref 65), (1, .ref 95)], [], (q_kN s c n))) rfl rfl (q_d_geT h3) ?_
      refine q_RP_seg (g2 := (27, [(3, .int r2), (2, .int ((r1 / 24) - 4)), (0, .ref 65), (1, .ref 95)], [.int 4, .int r2], (q_kN s c n))) 2 (fun _ _ => rfl) ?_
      cases h4 : decide (r2 < 4) with
      | true =>
        refine q_RP_cT ?_
        refine q_RP_rsT (g2 := (121, [(3, .int r2), (2, .int ((r1 / 24) - 4)), (0, .ref 65), (1, .ref 95)], [], (q_kN s c n))) rfl rfl h4 ?_
        refine q_RP_seg (g2 := (122, [(3, .int r2), (2, .int ((r1 / 24) - 4)), (0, .ref 65), (1, .ref 95)], [.ref 65], (q_kN s c n))) 1 (fun _ _ => rfl) ?_
        cases h5 : decide (lg_cmp (((s.2.2 1 8) / 960) - ((s.2.2 1 8) / 960) / 2 * 2) 0 = 0) with
        | true =>
          refine q_RP_cT ?_
          refine q_RP_call (v := (some (.ref 77))) (h2 := (q_kN s c n)) rfl rfl ?_ ?_
          · refine q_Ca_of (Nat.le_of_ble_eq_true rfl) ?_
            refine q_Ru_seg (g2 := (14, [(0, .ref 65)], [.int (lg_cmp (((s.2.2 1 8) / 960) - ((s.2.2 1 8) / 960) / 2 * 2) 0)], (q_kN s c n))) 8 (fun _ _ => rfl) ?_
            refine q_Ru_rsF (g2 := (17, [(0, .ref 65)], [], (q_kN s c n))) rfl rfl (q_d_neT h5) ?_
            refine q_Ru_seg (g2 := (28, [(0, .ref 65)], [.ref 77], (q_kN s c n))) 3 (fun _ _ => rfl) ?_
            exact q_Ru_ret rfl rfl
          show q_RP _ _ _ (125, [(3, .int r2), (2, .int ((r1 / 24) - 4)), (0, .ref 65), (1, .ref 95)], [.ref 77], (q_kN s c n)) _ _
          refine q_RP_seg (g2 := (129, [(3, .int r2), (2, .int ((r1 / 24) - 4)), (0, .ref 65), (1, .ref 95)], [.int (s.2.1 13 3), .ref 77], (q_kN s c n))) 2 (fun _ _ => rfl) ?_
          refine q_RP_seg (g2 := (134, [(3, .int r2), (2, .int ((r1 / 24) - 4)), (0, .ref 65), (1, .ref 95)], [], (q_kN (q_sI s 13 3 ((s.2.1 13 3) + 1)) c n))) 3 (fun _ _ => rfl) ?_
          exact q_RP_ret rfl rfl rfl
        | false =>
          refine q_RP_cF ?_
          refine q_RP_call (v := (some (.ref 82))) (h2 := (q_kN s c n)) rfl rfl ?_ ?_
          · refine q_Ca_of (Nat.le_of_ble_eq_true rfl) ?_
            refine q_Ru_seg (g2 := (14, [(0, .ref 65)], [.int (lg_cmp (((s.2.2 1 8) / 960) - ((s.2.2 1 8) / 960) / 2 * 2) 0)], (q_kN s c n))) 8 (fun _ _ => rfl) ?_
            refine q_Ru_rsT (g2 := (24, [(0, .ref 65)], [], (q_kN s c n))) rfl rfl (q_d_neF h5) ?_
            refine q_Ru_seg (g2 := (28, [(0, .ref 65)], [.ref 82], (q_kN s c n))) 2 (fun _ _ => rfl) ?_
            exact q_Ru_ret rfl rfl
          show q_RP _ _ _ (125, [(3, .int r2), (2, .int ((r1 / 24) - 4)), (0, .ref 65), (1, .ref 95)], [.ref 82], (q_kN s c n)) _ _
          refine q_RP_seg (g2 := (129, [(3, .int r2), (2, .int ((r1 / 24) - 4)), (0, .ref 65), (1, .ref 95)], [.int (s.2.1 18 3), .ref 82], (q_kN s c n))) 2 (fun _ _ => rfl) ?_
          refine q_RP_seg (g2 := (134, [(3, .int r2), (2, .int ((r1 / 24) - 4)), (0, .ref 65), (1, .ref 95)], [], (q_kN (q_sI s 18 3 ((s.2.1 18 3) + 1)) c n))) 3 (fun _ _ => rfl) ?_
          exact q_RP_ret rfl rfl rfl
      | false =>
        refine q_RP_cF ?_
        refine q_RP_rsF (g2 := (30, [(3, .int r2), (2, .int ((r1 / 24) - 4)), (0, .ref 65), (1, .ref 95)], [], (q_kN s c n))) rfl rfl h4 ?_
        refine q_RP_seg (g2 := (33, [(3, .int r2), (2, .int ((r1 / 24) - 4)), (0, .ref 65), (1, .ref 95)], [.int 19, .int r2], (q_kN s c n))) 2 (fun _ _ => rfl) ?_
        cases h6 : decide (19 < r2) with
        | true =>
          refine q_RP_cT ?_
          refine q_RP_rsT (g2 := (121, [(3, .int r2), (2, .int ((r1 / 24) - 4)), (0, .ref 65), (1, .ref 95)], [], (q_kN s c n))) rfl rfl h6 ?_
          refine q_RP_seg (g2 := (122, [(3, .int r2), (2, .int ((r1 / 24) - 4)), (0, .ref 65), (1, .ref 95)], [.ref 65], (q_kN s c n))) 1 (fun _ _ => rfl) ?_
          cases h7 : decide (lg_cmp (((s.2.2 1 8) / 960) - ((s.2.2 1 8) / 960) / 2 * 2) 0 = 0) with
          | true =>
            refine q_RP_cT ?_
            refine q_RP_call (v := (some (.ref 77))) (h2 := (q_kN s c n)) rfl rfl ?_ ?_
            · refine q_Ca_of (Nat.le_of_ble_eq_true rfl) ?_
              refine q_Ru_seg (g2 := (14, [(0, .ref 65)], [.int (lg_cmp (((s.2.2 1 8) / 960) - ((s.2.2 1 8) / 960) / 2 * 2) 0)], (q_kN s c n))) 8 (fun _ _ => rfl) ?_
              refine q_Ru_rsF (g2 := (17, [(0, .ref 65)], [], (q_kN s c n))) rfl rfl (q_d_neT h7) ?_
              refine q_Ru_seg (g2 := (28, [(0, .ref 65)], [.ref 77], (q_kN s c n))) 3 (fun _ _ => rfl) ?_
              exact q_Ru_ret rfl rfl
            show q_RP _ _ _ (125, [(3, .int r2), (2, .int ((r1 / 24) - 4)), (0, .ref 65), (1, .ref 95)], [.ref 77], (q_kN s c n)) _ _
            refine q_RP_seg (g2 := (129, [(3, .int r2), (2, .int ((r1 / 24) - 4)), (0, .ref 65), (1, .ref 95)], [.int (s.2.1 13 3), .ref 77], (q_kN s c n))) 2 (fun _ _ => rfl) ?_
            refine q_RP_seg (g2 := (134, [(3, .int r2), (2, .int ((r1 / 24) - 4)), (0, .ref 65), (1, .ref 95)], [], (q_kN (q_sI s 13 3 ((s.2.1 13 3) + 1)) c n))) 3 (fun _ _ => rfl) ?_
            exact q_RP_ret rfl rfl rfl
          | false =>
            refine q_RP_cF ?_
            refine q_RP_call (v := (some (.ref 82))) (h2 := (q_kN s c n)) rfl rfl ?_ ?_
            · refine q_Ca_of (Nat.le_of_ble_eq_true rfl) ?_
              refine q_Ru_seg (g2 := (14, [(0, .ref 65)], [.int (lg_cmp (((s.2.2 1 8) / 960) - ((s.2.2 1 8) / 960) / 2 * 2) 0)], (q_kN s c n))) 8 (fun _ _ => rfl) ?_
              refine q_Ru_rsT (g2 := (24, [(0, .ref 65)], [], (q_kN s c n))) rfl rfl (q_d_neF h7) ?_
              refine q_Ru_seg (g2 := (28, [(0, .ref 65)], [.ref 82], (q_kN s c n))) 2 (fun _ _ => rfl) ?_
              exact q_Ru_ret rfl rfl
            show q_RP _ _ _ (125, [(3, .int r2), (2, .int ((r1 / 24) - 4)), (0, .ref 65), (1, .ref 95)], [.ref 82], (q_kN s c n)) _ _
            refine q_RP_seg (g2 := (129, [(3, .int r2), (2, .int ((r1 / 24) - 4)), (0, .ref 65), (1, .ref 95)], [.int (s.2.1 18 3), .ref 82], (q_kN s c n))) 2 (fun _ _ => rfl) ?_
            refine q_RP_seg (g2 := (134, [(3, .int r2), (2, .int ((r1 / 24) - 4)), (0, .ref 65), (1, .ref 95)], [], (q_kN (q_sI s 18 3 ((s.2.1 18 3) + 1)) c n))) 3 (fun _ _ => rfl) ?_
            exact q_RP_ret rfl rfl rfl
        | false =>
          refine q_RP_cF ?_
          refine q_RP_rsF (g2 := (36, [(3, .int r2), (2, .int ((r1 / 24) - 4)), (0, .ref 65), (1, .ref 95)], [], (q_kN s c n))) rfl rfl h6 ?_
          refine q_RP_seg (g2 := (47, [(5, .int (2 * (r2 - 4))), (4, .int (2 * (r2 - 4))), (3, .int r2), (2, .int ((r1 / 24) - 4)), (0, .ref 65), (1, .ref 95)], [], (q_kN s c n))) 8 (fun _ _ => rfl) ?_
          exact q_RP_xt (q_xt_mk (q_mn1 4 rfl (q_mn1 5 rfl (q_mn1 3 rfl (q_mn1 1 rfl (q_mn1 0 rfl q_mn0))))) rfl) (dzt_N103_65_95_47 c n 5000 s ((r1 / 24) - 4) (2 * (r2 - 4)) (2 * (r2 - 4)))
    | false =>
      refine q_RP_cF ?_
      refine q_RP_rsT (g2 := (121, [(3, .int r2), (2, .int ((r1 / 24) - 4)), (0, .ref 65), (1, .ref 95)], [], (q_kN s c n))) rfl rfl (q_d_geF h3) ?_
      refine q_RP_seg (g2 := (122, [(3, .int r2), (2, .int ((r1 / 24) - 4)), (0, .ref 65), (1, .ref 95)], [.ref 65], (q_kN s c n))) 1 (fun _ _ => rfl) ?_
      cases h10 : decide (lg_cmp (((s.2.2 1 8) / 960) - ((s.2.2 1 8) / 960) / 2 * 2) 0 = 0) with
      | true =>
        refine q_RP_cT ?_
        refine q_RP_call (v := (some (.ref 77))) (h2 := (q_kN s c n)) rfl rfl ?_ ?_
        · refine q_Ca_of (Nat.le_of_ble_eq_true rfl) ?_
          refine q_Ru_seg (g2 := (14, [(0, .ref 65)], [.int (lg_cmp (((s.2.2 1 8) / 960) - ((s.2.2 1 8) / 960) / 2 * 2) 0)], (q_kN s c n))) 8 (fun _ _ => rfl) ?_
          refine q_Ru_rsF (g2 := (17, [(0, .ref 65)], [], (q_kN s c n))) rfl rfl (q_d_neT h10) ?_
          refine q_Ru_seg (g2 := (28, [(0, .ref 65)], [.ref 77], (q_kN s c n))) 3 (fun _ _ => rfl) ?_
          exact q_Ru_ret rfl rfl
        show q_RP _ _ _ (125, [(3, .int r2), (2, .int ((r1 / 24) - 4)), (0, .ref 65), (1, .ref 95)], [.ref 77], (q_kN s c n)) _ _
        refine q_RP_seg (g2 := (129, [(3, .int r2), (2, .int ((r1 / 24) - 4)), (0, .ref 65), (1, .ref 95)], [.int (s.2.1 13 3), .ref 77], (q_kN s c n))) 2 (fun _ _ => rfl) ?_
        refine q_RP_seg (g2 := (134, [(3, .int r2), (2, .int ((r1 / 24) - 4)), (0, .ref 65), (1, .ref 95)], [], (q_kN (q_sI s 13 3 ((s.2.1 13 3) + 1)) c n))) 3 (fun _ _ => rfl) ?_
        exact q_RP_ret rfl rfl rfl
      | false =>
        refine q_RP_cF ?_
        refine q_RP_call (v := (some (.ref 82))) (h2 := (q_kN s c n)) rfl rfl ?_ ?_
        · refine q_Ca_of (Nat.le_of_ble_eq_true rfl) ?_
          refine q_Ru_seg (g2 := (14, [(0, .ref 65)], [.int (lg_cmp (((s.2.2 1 8) / 960) - ((s.2.2 1 8) / 960) / 2 * 2) 0)], (q_kN s c n))) 8 (fun _ _ => rfl) ?_
          refine q_Ru_rsT (g2 := (24, [(0, .ref 65)], [], (q_kN s c n))) rfl rfl (q_d_neF h10) ?_
          refine q_Ru_seg (g2 := (28, [(0, .ref 65)], [.ref 82], (q_kN s c n))) 2 (fun _ _ => rfl) ?_
          exact q_Ru_ret rfl rfl
        show q_RP _ _ _ (125, [(3, .int r2), (2, .int ((r1 / 24) - 4)), (0, .ref 65), (1, .ref 95)], [.ref 82], (q_kN s c n)) _ _
        refine q_RP_seg (g2 := (129, [(3, .int r2), (2, .int ((r1 / 24) - 4)), (0, .ref 65), (1, .ref 95)], [.int (s.2.1 18 3), .ref 82], (q_kN s c n))) 2 (fun _ _ => rfl) ?_
        refine q_RP_seg (g2 := (134, [(3, .int r2), (2, .int ((r1 / 24) - 4)), (0, .ref 65), (1, .ref 95)], [], (q_kN (q_sI s 18 3 ((s.2.1 18 3) + 1)) c n))) 3 (fun _ _ => rfl) ?_
        exact q_RP_ret rfl rfl rfl
def dz_N105_65 (s : q_S) (a1 : Int32) : Option (q_S × Bool) :=
  cond (decide (0 < (s.1 7) ((a1 &&& 1).toNatClampNeg))) (some ((q_sA s 7 (upd (s.1 7) ((a1 &&& 1).toNatClampNeg) (((s.1 7) ((a1 &&& 1).toNatClampNeg)) - 1))), false)) ((dz_N95_65 s ((1 : Int32) <<< ((a1 &&& 1) &&& 31))).bind fun r2 => some ((q_sA r2 4 (upd (r2.1 4) 10 (((r2.1 4) 10) ||| ((2 : Int32) <<< ((a1 &&& 1) &&& 31))))), true))
set_option maxHeartbeats 4000000 in
theorem dzt_N105_65 (s : q_S) (c n : Nat) (a1 : Int32) (x : q_S × Bool) (h : dz_N105_65 s a1 = some x) : q_Ca q_TB0 2 104 [.ref 65, .int a1] (q_kN s c n) ((q_oJN c n) x) := by
  refine q_CaP_of (φ := (q_oJN c n)) (Nat.le_of_ble_eq_true rfl) ?_ h
  clear h
  unfold dz_N105_65
  refine q_RP_seg (g2 := (9, [(2, .int (a1 &&& 1)), (0, .ref 65), (1, .int a1)], [.int (a1 &&& 1), .ref 71], (q_kN s c n))) 7 (fun _ _ => rfl) ?_
  refine q_RP_rsT (g2 := (10, [(2, .int (a1 &&& 1)), (0, .ref 65), (1, .int a1)], [.int ((s.1 7) ((a1 &&& 1).toNatClampNeg))], (q_kN s c n))) rfl rfl (q_in_bd (x := a1 &&& 1) (n := 2) (U := 1) (L := 0) (q_and_lo a1 1) (q_and_hi a1 1 1)) ?_
  cases h2 : decide (0 < (s.1 7) ((a1 &&& 1).toNatClampNeg)) with
  | true =>
    refine q_RP_cT ?_
    refine q_RP_rsF (g2 := (13, [(2, .int (a1 &&& 1)), (0, .ref 65), (1, .int a1)], [], (q_kN s c n))) rfl rfl (q_d_geT h2) ?_
    refine q_RP_seg (g2 := (19, [(2, .int (a1 &&& 1)), (0, .ref 65), (1, .int a1)], [.int (a1 &&& 1), .ref 71, .int (a1 &&& 1), .ref 71], (q_kN s c n))) 4 (fun _ _ => rfl) ?_
    refine q_RP_rsT (g2 := (20, [(2, .int (a1 &&& 1)), (0, .ref 65), (1, .int a1)], [.int ((s.1 7) ((a1 &&& 1).toNatClampNeg)), .int (a1 &&& 1), .ref 71], (q_kN s c n))) rfl rfl (q_in_bd (x := a1 &&& 1) (n := 2) (U := 1) (L := 0) (q_and_lo a1 1) (q_and_hi a1 1 1)) ?_
    refine q_RP_seg (g2 := (22, [(2, .int (a1 &&& 1)), (0, .ref 65), (1, .int a1)], [.int (((s.1 7) ((a1 &&& 1).toNatClampNeg)) - 1), .int (a1 &&& 1), .ref 71], (q_kN s c n))) 2 (fun _ _ => rfl) ?_
    refine q_RP_rsT (g2 := (23, [(2, .int (a1 &&& 1)), (0, .ref 65), (1, .int a1)], [], (q_kN (q_sA s 7 (upd (s.1 7) ((a1 &&& 1).toNatClampNeg) (((s.1 7) ((a1 &&& 1).toNatClampNeg)) - 1))) c n))) rfl rfl (q_in_bd (x := a1 &&& 1) (n := 2) (U := 1) (L := 0) (q_and_lo a1 1) (q_and_hi a1 1 1)) ?_
    refine q_RP_seg (g2 := (24, [(2, .int (a1 &&& 1)), (0, .ref 65), (1, .int a1)], [.int 0], (q_kN (q_sA s 7 (upd (s.1 7) ((a1 &&& 1).toNatClampNeg) (((s.1 7) ((a1 &&& 1).toNatClampNeg)) - 1))) c n))) 1 (fun _ _ => rfl) ?_
    exact q_RP_ret rfl rfl rfl
  | false =>
    refine q_RP_cF ?_
    refine q_RP_rsT (g2 := (25, [(2, .int (a1 &&& 1)), (0, .ref 65), (1, .int a1)], [], (q_kN s c n))) rfl rfl (q_d_geF h2) ?_
    refine q_RP_seg (g2 := (29, [(2, .int (a1 &&& 1)), (0, .ref 65), (1, .int a1)], [.int ((1 : Int32) <<< ((a1 &&& 1) &&& 31)), .ref 65], (q_kN s c n))) 4 (fun _ _ => rfl) ?_
    refine q_RP_bd fun r2 er2 => ?_
    refine q_RP_call (v := none) (h2 := (q_kN r2 c n)) rfl rfl ((dzt_N95_65 s c n ((1 : Int32) <<< ((a1 &&& 1) &&& 31)) r2 er2).le (Nat.le_of_ble_eq_true rfl)) ?_
    show q_RP _ _ _ (32, [(2, .int (a1 &&& 1)), (0, .ref 65), (1, .int a1)], [], (q_kN r2 c n)) _ _
    refine q_RP_seg (g2 := (43, [(2, .int (a1 &&& 1)), (0, .ref 65), (1, .int a1)], [.int ((r2.1 4) 10), .int 10, .ref 68], (q_kN r2 c n))) 6 (fun _ _ => rfl) ?_
    refine q_RP_seg (g2 := (49, [(2, .int (a1 &&& 1)), (0, .ref 65), (1, .int a1)], [.int 1], (q_kN (q_sA r2 4 (upd (r2.1 4) 10 (((r2.1 4) 10) ||| ((2 : Int32) <<< ((a1 &&& 1) &&& 31))))) c n))) 6 (fun _ _ => rfl) ?_
    exact q_RP_ret rfl rfl rfl
def dz_N104_65_26 (s : q_S) (v1 : Int32) (v2 : Int32) : Option (q_S) :=
  cond (decide (v1 &&& 2 = 2)) (cond (decide (v1 &&& 4 = 0)) ((dz_N105_65 s 1).bind fun r3 => cond r3.2 (some r3.1) (some r3.1)) (cond (decide (v2 = 0)) (some s) ((dz_N105_65 s 1).bind fun r4 => cond r4.2 (some r4.1) (some r4.1)))) (some s)
set_option maxHeartbeats 4000000 in
theorem dzt_N104_65_26 (c n : Nat) (s : q_S) (v1 : Int32) (v2 : Int32) : q_RP q_TB0 2 103 (26, [(0, .ref 65), (1, .int v1), (2, .int v2)], [], (q_kN s c n)) (q_oSN c n) (dz_N104_65_26 s v1 v2) := by
  unfold dz_N104_65_26
  refine q_RP_seg (g2 := (30, [(0, .ref 65), (1, .int v1), (2, .int v2)], [.int 2, .int (v1 &&& 2)], (q_kN s c n))) 4 (fun _ _ => rfl) ?_
  cases h4 : decide (v1 &&& 2 = 2) with
  | true =>
    refine q_RP_cT ?_
    refine q_RP_rsF (g2 := (33, [(0, .ref 65), (1, .int v1), (2, .int v2)], [], (q_kN s c n))) rfl rfl (q_d_neT h4) ?_
    refine q_RP_seg (g2 := (36, [(0, .ref 65), (1, .int v1), (2, .int v2)], [.int (v1 &&& 4)], (q_kN s c n))) 3 (fun _ _ => rfl) ?_
    cases h5 : decide (v1 &&& 4 = 0) with
    | true =>
      refine q_RP_cT ?_
      refine q_RP_rsT (g2 := (43, [(0, .ref 65), (1, .int v1), (2, .int v2)], [], (q_kN s c n))) rfl rfl h5 ?_
      refine q_RP_seg (g2 := (45, [(0, .ref 65), (1, .int v1), (2, .int v2)], [.int 1, .ref 65], (q_kN s c n))) 2 (fun _ _ => rfl) ?_
      refine q_RP_bd fun r3 er3 => ?_
      refine q_RP_call (v := (some (.int (q_b r3.2)))) (h2 := (q_kN r3.1 c n)) rfl rfl ((dzt_N105_65 s c n 1 r3 er3).le (Nat.le_of_ble_eq_true rfl)) ?_
      show q_RP _ _ _ (48, [(0, .ref 65), (1, .int v1), (2, .int v2)], [.int (q_b r3.2)], (q_kN r3.1 c n)) _ _
      cases h6 : r3.2 with
      | true =>
        refine q_RP_cT ?_
        show q_RP _ _ _ (48, [(0, .ref 65), (1, .int v1), (2, .int v2)], [.int 1], (q_kN r3.1 c n)) _ _
        refine q_RP_seg (g2 := (49, [(0, .ref 65), (1, .int v1), (2, .int v2)], [], (q_kN r3.1 c n))) 1 (fun _ _ => rfl) ?_
        exact q_RP_ret rfl rfl rfl
      | false =>
        refine q_RP_cF ?_
        show q_RP _ _ _ (48, [(0, .ref 65), (1, .int v1), (2, .int v2)], [.int 0], (q_kN r3.1 c n)) _ _
        refine q_RP_seg (g2 := (49, [(0, .ref 65), (1, .int v1), (2, .int v2)], [], (q_kN r3.1 c n))) 1 (fun _ _ => rfl) ?_
        exact q_RP_ret rfl rfl rfl
    | false =>
      refine q_RP_cF ?_
      refine q_RP_rsF (g2 := (39, [(0, .ref 65), (1, .int v1), (2, .int v2)], [], (q_kN s c n))) rfl rfl h5 ?_
      refine q_RP_seg (g2 := (40, [(0, .ref 65), (1, .int v1), (2, .int v2)], [.int v2], (q_kN s c n))) 1 (fun _ _ => rfl) ?_
      cases h7 : decide (v2 = 0) with
      | true =>
        refine q_RP_cT ?_
        refine q_RP_rsT (g2 := (49, [(0, .ref 65), (1, .int v1), (2, .int v2)], [], (q_kN s c n))) rfl rfl h7 ?_
        exact q_RP_ret rfl rfl rfl
      | false =>
        refine q_RP_cF ?_
        refine q_RP_rsF (g2 := (43, [(0, .ref 65), (1, .int v1), (2, .int v2)], [], (q_kN s c n))) rfl rfl h7 ?_
        refine q_RP_seg (g2 := (45, [(0, .ref 65), (1, .int v1), (2, .int v2)], [.int 1, .ref 65], (q_kN s c n))) 2 (fun _ _ => rfl) ?_
        refine q_RP_bd fun r4 er4 => ?_
        refine q_RP_call (v := (some (.int (q_b r4.2)))) (h2 := (q_kN r4.1 c n)) rfl rfl ((dzt_N105_65 s c n 1 r4 er4).le (Nat.le_of_ble_eq_true rfl)) ?_
        show q_RP _ _ _ (48, [(0, .ref 65), (1, .int v1), (2, .int v2)], [.int (q_b r4.2)], (q_kN r4.1 c n)) _ _
        cases h8 : r4.2 with
        | true =>
          refine q_RP_cT ?_
          show q_RP _ _ _ (48, [(0, .ref 65), (1, .int v1), (2, .int v2)], [.int 1], (q_kN r4.1 c n)) _ _
          refine q_RP_seg (g2 := (49, [(0, .ref 65), (1, .int v1), (2, .int v2)], [], (q_kN r4.1 c n))) 1 (fun _ _ => rfl) ?_
          exact q_RP_ret rfl rfl rfl
        | false =>
          refine q_RP_cF ?_
          show q_RP _ _ _ (48, [(0, .ref 65), (1, .int v1), (2, .int v2)], [.int 0], (q_kN r4.1 c n)) _ _
          refine q_RP_seg (g2 := (49, [(0, .ref 65), (1, .int v1), (2, .int v2)], [], (q_kN r4.1 c n))) 1 (fun _ _ => rfl) ?_
          exact q_RP_ret rfl rfl rfl
  | false =>
    refine q_RP_cF ?_
    refine q_RP_rsT (g2 := (49, [(0, .ref 65), (1, .int v1), (2, .int v2)], [], (q_kN s c n))) rfl rfl (q_d_neF h4) ?_
    exact q_RP_ret rfl rfl rfl
def dz_N104_65 (s : q_S) : Option (q_S) :=
  cond (decide (((s.1 4) 16) &&& 1 = 1)) ((dz_N105_65 s 0).bind fun r2 => cond r2.2 (dz_N104_65_26 r2.1 ((s.1 4) 16) 1) (dz_N104_65_26 r2.1 ((s.1 4) 16) 0)) (dz_N104_65_26 s ((s.1 4) 16) 0)
set_option maxHeartbeats 4000000 in
theorem dzt_N104_65 (s : q_S) (c n : Nat) (x : q_S) (h : dz_N104_65 s = some x) : q_Ca q_TB0 3 103 [.ref 65] (q_kN s c n) ((q_oSN c n) x) := by
  refine q_CaP_of (φ := (q_oSN c n)) (Nat.le_of_ble_eq_true rfl) ?_ h
  clear h
  unfold dz_N104_65
  refine q_RP_seg (g2 := (10, [(0, .ref 65)], [.int ((s.1 4) 16)], (q_kN s c n))) 5 (fun _ _ => rfl) ?_
  refine q_RP_seg (g2 := (17, [(2, .int 0), (1, .int ((s.1 4) 16)), (0, .ref 65)], [.int 1, .int (((s.1 4) 16) &&& 1)], (q_kN s c n))) 7 (fun _ _ => rfl) ?_
  cases h2 : decide (((s.1 4) 16) &&& 1 = 1) with
  | true =>
    refine q_RP_cT ?_
    refine q_RP_rsF (g2 := (20, [(2, .int 0), (1, .int ((s.1 4) 16)), (0, .ref 65)], [], (q_kN s c n))) rfl rfl (q_d_neT h2) ?_
    refine q_RP_seg (g2 := (22, [(2, .int 0), (1, .int ((s.1 4) 16)), (0, .ref 65)], [.int 0, .ref 65], (q_kN s c n))) 2 (fun _ _ => rfl) ?_
    refine q_RP_bd fun r2 er2 => ?_
    refine q_RP_call (v := (some (.int (q_b r2.2)))) (h2 := (q_kN r2.1 c n)) rfl rfl ((dzt_N105_65 s c n 0 r2 er2).le (Nat.le_of_ble_eq_true rfl)) ?_
    show q_RP _ _ _ (25, [(2, .int 0), (1, .int ((s.1 4) 16)), (0, .ref 65)], [.int (q_b r2.2)], (q_kN r2.1 c n)) _ _
    cases h3 : r2.2 with
    | true =>
      refine q_RP_cT ?_
      show q_RP _ _ _ (25, [(2, .int 0), (1, .int ((s.1 4) 16)), (0, .ref 65)], [.int 1], (q_kN r2.1 c n)) _ _
      refine q_RP_seg (g2 := (26, [(2, .int 1), (1, .int ((s.1 4) 16)), (0, .ref 65)], [], (q_kN r2.1 c n))) 1 (fun _ _ => rfl) ?_
      exact q_RP_xt (q_xt_mk (q_mn1 2 rfl (q_mn1 1 rfl (q_mn1 0 rfl q_mn0))) rfl) (dzt_N104_65_26 c n r2.1 ((s.1 4) 16) 1)
    | false =>
      refine q_RP_cF ?_
      show q_RP _ _ _ (25, [(2, .int 0), (1, .int ((s.1 4) 16)), (0, .ref 65)], [.int 0], (q_kN r2.1 c n)) _ _
      refine q_RP_seg (g2 := (26, [(2, .int 0), (1, .int ((s.1 4) 16)), (0, .ref 65)], [], (q_kN r2.1 c n))) 1 (fun _ _ => rfl) ?_
      exact q_RP_xt (q_xt_mk (q_mn1 2 rfl (q_mn1 1 rfl (q_mn1 0 rfl q_mn0))) rfl) (dzt_N104_65_26 c n r2.1 ((s.1 4) 16) 0)
  | false =>
    refine q_RP_cF ?_
    refine q_RP_rsT (g2 := (26, [(2, .int 0), (1, .int ((s.1 4) 16)), (0, .ref 65)], [], (q_kN s c n))) rfl rfl (q_d_neF h2) ?_
    exact q_RP_xt (q_xt_mk (q_mn1 2 rfl (q_mn1 1 rfl (q_mn1 0 rfl q_mn0))) rfl) (dzt_N104_65_26 c n s ((s.1 4) 16) 0)
def dz_N177_72 (s : q_S) : q_S × Bool :=
  cond (decide (s.2.1 8 2 < 0)) ((s, false)) (cond (decide (s.2.1 8 2 < s.2.1 8 1)) (cond (decide (s.2.1 8 2 < 40)) (cond (decide ((s.2.1 8 3) + 1 < (s.1 9) ((s.2.1 8 2).toNatClampNeg))) (((q_sI s 8 3 ((s.2.1 8 3) + 1)), false)) (((q_sI (q_sI (q_sI s 8 3 0) 8 2 ((s.2.1 8 2) + 1)) 8 4 ((1 : Int32) - (s.2.1 8 4))), true))) ((s, false))) ((s, false)))
set_option maxHeartbeats 4000000 in
theorem dzt_N177_72 (s : q_S) (c n : Nat) : q_Ca q_TB0 1 176 [.ref 72] (q_kN s c n) ((q_oJN c n) (dz_N177_72 s)) := by
  refine q_CaT_of (φ := (q_oJN c n)) (Nat.le_of_ble_eq_true rfl) ?_
  unfold dz_N177_72
  refine q_RT_seg (g2 := (4, [(0, .ref 72)], [.int (s.2.1 8 2)], (q_kN s c n))) 2 (fun _ _ => rfl) ?_
  cases h1 : decide (s.2.1 8 2 < 0) with
  | true =>
    refine q_RT_cT ?_
    refine q_RT_rsT (g2 := (27, [(0, .ref 72)], [], (q_kN s c n))) rfl rfl h1 ?_
    refine q_RT_seg (g2 := (28, [(0, .ref 72)], [.int 0], (q_kN s c n))) 1 (fun _ _ => rfl) ?_
    exact q_RT_ret rfl rfl rfl
  | false =>
    refine q_RT_cF ?_
    refine q_RT_rsF (g2 := (7, [(0, .ref 72)], [], (q_kN s c n))) rfl rfl h1 ?_
    refine q_RT_seg (g2 := (11, [(0, .ref 72)], [.int (s.2.1 8 2)], (q_kN s c n))) 2 (fun _ _ => rfl) ?_
    refine q_RT_seg (g2 := (15, [(0, .ref 72)], [.int (s.2.1 8 1), .int (s.2.1 8 2)], (q_kN s c n))) 2 (fun _ _ => rfl) ?_
    cases h2 : decide (s.2.1 8 2 < s.2.1 8 1) with
    | true =>
      refine q_RT_cT ?_
      refine q_RT_rsF (g2 := (18, [(0, .ref 72)], [], (q_kN s c n))) rfl rfl (q_d_geT h2) ?_
      refine q_RT_seg (g2 := (22, [(0, .ref 72)], [.int (s.2.1 8 2)], (q_kN s c n))) 2 (fun _ _ => rfl) ?_
      refine q_RT_seg (g2 := (24, [(0, .ref 72)], [.int 40, .int (s.2.1 8 2)], (q_kN s c n))) 1 (fun _ _ => rfl) ?_
      cases h3 : decide (s.2.1 8 2 < 40) with
      | true =>
        refine q_RT_cT ?_
        refine q_RT_rsT (g2 := (29, [(0, .ref 72)], [], (q_kN s c n))) rfl rfl h3 ?_
        refine q_RT_seg (g2 := (34, [(0, .ref 72)], [.int (s.2.1 8 3), .ref 72], (q_kN s c n))) 3 (fun _ _ => rfl) ?_
        refine q_RT_seg (g2 := (43, [(0, .ref 72)], [.int ((s.2.1 8 3) + 1)], (q_kN (q_sI s 8 3 ((s.2.1 8 3) + 1)) c n))) 5 (fun _ _ => rfl) ?_
        refine q_RT_seg (g2 := (51, [(0, .ref 72)], [.int (s.2.1 8 2), .ref 73, .int ((s.2.1 8 3) + 1)], (q_kN (q_sI s 8 3 ((s.2.1 8 3) + 1)) c n))) 4 (fun _ _ => rfl) ?_
        refine q_RT_rsT (g2 := (52, [(0, .ref 72)], [.int ((s.1 9) ((s.2.1 8 2).toNatClampNeg)), .int ((s.2.1 8 3) + 1)], (q_kN (q_sI s 8 3 ((s.2.1 8 3) + 1)) c n))) rfl rfl (q_in_bd (x := s.2.1 8 2) (n := 40) (U := 39) (L := 0) (q_lo1 h1) (q_hi1 h3)) ?_
        cases h4 : decide ((s.2.1 8 3) + 1 < (s.1 9) ((s.2.1 8 2).toNatClampNeg)) with
        | true =>
          refine q_RT_cT ?_
          refine q_RT_rsF (g2 := (55, [(0, .ref 72)], [], (q_kN (q_sI s 8 3 ((s.2.1 8 3) + 1)) c n))) rfl rfl (q_d_geT h4) ?_
          refine q_RT_seg (g2 := (56, [(0, .ref 72)], [.int 0], (q_kN (q_sI s 8 3 ((s.2.1 8 3) + 1)) c n))) 1 (fun _ _ => rfl) ?_
          exact q_RT_ret rfl rfl rfl
        | false =>
          refine q_RT_cF ?_
          refine q_RT_rsT (g2 := (57, [(0, .ref 72)], [], (q_kN (q_sI s 8 3 ((s.2.1 8 3) + 1)) c n))) rfl rfl (q_d_geF h4) ?_
          refine q_RT_seg (g2 := (67, [(0, .ref 72)], [.int (s.2.1 8 2), .ref 72], (q_kN (q_sI s 8 3 0) c n))) 6 (fun _ _ => rfl) ?_
          refine q_RT_seg (g2 := (78, [(0, .ref 72)], [.int (s.2.1 8 4), .int 1, .ref 72], (q_kN (q_sI (q_sI s 8 3 0) 8 2 ((s.2.1 8 2) + 1)) c n))) 7 (fun _ _ => rfl) ?_
          refine q_RT_seg (g2 := (83, [(0, .ref 72)], [.int 1], (q_kN (q_sI (q_sI (q_sI s 8 3 0) 8 2 ((s.2.1 8 2) + 1)) 8 4 ((1 : Int32) - (s.2.1 8 4))) c n))) 3 (fun _ _ => rfl) ?_
          exact q_RT_ret rfl rfl rfl
      | false =>
        refine q_RT_cF ?_
        refine q_RT_rsF (g2 := (27, [(0, .ref 72)], [], (q_kN s c n))) rfl rfl h3 ?_
        refine q_RT_seg (g2 := (28, [(0, .ref 72)], [.int 0], (q_kN s c n))) 1 (fun _ _ => rfl) ?_
        exact q_RT_ret rfl rfl rfl
    | false =>
      refine q_RT_cF ?_
      refine q_RT_rsT (g2 := (27, [(0, .ref 72)], [], (q_kN s c n))) rfl rfl (q_d_geF h2) ?_
      refine q_RT_seg (g2 := (28, [(0, .ref 72)], [.int 0], (q_kN s c n))) 1 (fun _ _ => rfl) ?_
      exact q_RT_ret rfl rfl rfl
def dz_N106_65 (s : q_S) : q_S :=
  cond (decide ((s.1 4) 44 = 1)) (q_let (dz_N177_72 s) fun r1 => cond r1.2 ((q_sA r1.1 4 (upd (r1.1.1 4) 10 (((r1.1.1 4) 10) ||| 8)))) (r1.1)) (s)
set_option maxHeartbeats 4000000 in
theorem dzt_N106_65 (s : q_S) (c n : Nat) : q_Ca q_TB0 2 105 [.ref 65] (q_kN s c n) ((q_oSN c n) (dz_N106_65 s)) := by
  refine q_CaT_of (φ := (q_oSN c n)) (Nat.le_of_ble_eq_true rfl) ?_
  unfold dz_N106_65
  refine q_RT_seg (g2 := (10, [(0, .ref 65)], [.int ((s.1 4) 44)], (q_kN s c n))) 5 (fun _ _ => rfl) ?_
  refine q_RT_seg (g2 := (11, [(0, .ref 65)], [.int 1, .int ((s.1 4) 44)], (q_kN s c n))) 1 (fun _ _ => rfl) ?_
  cases h1 : decide ((s.1 4) 44 = 1) with
  | true =>
    refine q_RT_cT ?_
    refine q_RT_rsF (g2 := (14, [(0, .ref 65)], [], (q_kN s c n))) rfl rfl (q_d_neT h1) ?_
    refine q_RT_seg (g2 := (18, [(0, .ref 65)], [.ref 72], (q_kN s c n))) 2 (fun _ _ => rfl) ?_
    refine q_RT_call (v := (some (.int (q_b (dz_N177_72 s).2)))) (h2 := (q_kN (dz_N177_72 s).1 c n)) rfl rfl ((dzt_N177_72 s c n).le (Nat.le_of_ble_eq_true rfl)) ?_
    generalize dz_N177_72 s = r1
    refine q_RT_let ?_
    show q_RT _ _ _ (21, [(0, .ref 65)], [.int (q_b r1.2)], (q_kN r1.1 c n)) _ _
    cases h2 : r1.2 with
    | true =>
      refine q_RT_cT ?_
      show q_RT _ _ _ (21, [(0, .ref 65)], [.int 1], (q_kN r1.1 c n)) _ _
      refine q_RT_seg (g2 := (35, [(0, .ref 65)], [.int ((r1.1.1 4) 10), .int 10, .ref 68], (q_kN r1.1 c n))) 7 (fun _ _ => rfl) ?_
      refine q_RT_seg (g2 := (39, [(0, .ref 65)], [], (q_kN (q_sA r1.1 4 (upd (r1.1.1 4) 10 (((r1.1.1 4) 10) ||| 8))) c n))) 3 (fun _ _ => rfl) ?_
      exact q_RT_ret rfl rfl rfl
    | false =>
      refine q_RT_cF ?_
      show q_RT _ _ _ (21, [(0, .ref 65)], [.int 0], (q_kN r1.1 c n)) _ _
      refine q_RT_seg (g2 := (39, [(0, .ref 65)], [], (q_kN r1.1 c n))) 1 (fun _ _ => rfl) ?_
      exact q_RT_ret rfl rfl rfl
  | false =>
    refine q_RT_cF ?_
    refine q_RT_rsT (g2 := (39, [(0, .ref 65)], [], (q_kN s c n))) rfl rfl (q_d_neF h1) ?_
    exact q_RT_ret rfl rfl rfl
def dz_N169_89_59 (s : q_S) (v1 : Int32) (v4 : Int32) : Option (q_S) :=
  cond (q_in v1 3) (some (q_sA s 29 (upd (s.1 29) (v1.toNatClampNeg) ((v4 / 2) + 16384)))) none
set_option maxHeartbeats 4000000 in
theorem dzt_N169_89_59 (c n : Nat) (s : q_S) (v1 : Int32) (v4 : Int32) : q_RP q_TB0 0 168 (59, [(0, .ref 89), (1, .int v1), (4, .int v4)], [], (q_kN s c n)) (q_oSN c n) (dz_N169_89_59 s v1 v4) := by
  unfold dz_N169_89_59
  refine q_RP_seg (g2 := (88, [(5, .int 1), (0, .ref 89), (1, .int v1), (4, .int v4)], [.int ((v4 / 2) + 16384), .int v1, .ref 93], (q_kN s c n))) 14 (fun _ _ => rfl) ?_
  refine q_RP_as fun i9 => ?_
  refine q_RP_rsT (g2 := (89, [(5, .int 1), (0, .ref 89), (1, .int v1), (4, .int v4)], [], (q_kN (q_sA s 29 (upd (s.1 29) (v1.toNatClampNeg) ((v4 / 2) + 16384))) c n))) rfl rfl i9 ?_
  exact q_RP_ret rfl rfl rfl
def dz_N169_89 (s : q_S) (a1 : Int32) (a2 : Int32) : Option (q_S) :=
  cond (decide (a1 < 0)) (some s) (cond (decide (a1 < 3)) (cond (decide (65535 < ((s.1 26) (a1.toNatClampNeg)) + a2)) (cond (decide (((s.1 29) (a1.toNatClampNeg)) &&& 3 = 1)) (dz_N169_89_59 (q_sA s 26 (upd (s.1 26) (a1.toNatClampNeg) ((((s.1 26) (a1.toNatClampNeg)) + a2) - (((s.1 26) (a1.toNatClampNeg)) + a2) / 65536 * 65536))) a1 ((s.1 29) (a1.toNatClampNeg))) (cond (decide (((s.1 29) (a1.toNatClampNeg)) &&& 3 = 2)) (dz_N169_89_59 (q_sA s 26 (upd (s.1 26) (a1.toNatClampNeg) ((((s.1 26) (a1.toNatClampNeg)) + a2) - (((s.1 26) (a1.toNatClampNeg)) + a2) / 65536 * 65536))) a1 ((s.1 29) (a1.toNatClampNeg))) (some (q_sA (q_sA s 26 (upd (s.1 26) (a1.toNatClampNeg) ((((s.1 26) (a1.toNatClampNeg)) + a2) - (((s.1 26) (a1.toNatClampNeg)) + a2) / 65536 * 65536))) 29 (upd (s.1 29) (a1.toNatClampNeg) ((((s.1 29) (a1.toNatClampNeg)) / 2) + 0)))))) (some (q_sA s 26 (upd (s.1 26) (a1.toNatClampNeg) ((((s.1 26) (a1.toNatClampNeg)) + a2) - (((s.1 26) (a1.toNatClampNeg)) + a2) / 65536 * 65536))))) (some s))
set_option maxHeartbeats 4000000 in
theorem dzt_N169_89 (s : q_S) (c n : Nat) (a1 : Int32) (a2 : Int32) (x : q_S) (h : dz_N169_89 s a1 a2 = some x) : q_Ca q_TB0 1 168 [.ref 89, .int a1, .int a2] (q_kN s c n) ((q_oSN c n) x) := by
  refine q_CaP_of (φ := (q_oSN c n)) (Nat.le_of_ble_eq_true rfl) ?_ h
  clear h
  unfold dz_N169_89
  refine q_RP_seg (g2 := (1, [(0, .ref 89), (1, .int a1), (2, .int a2)], [.int a1], (q_kN s c n))) 1 (fun _ _ => rfl) ?_
  cases h5 : decide (a1 < 0) with
  | true =>
    refine q_RP_cT ?_
    refine q_RP_rsT (g2 := (9, [(0, .ref 89), (1, .int a1), (2, .int a2)], [], (q_kN s c n))) rfl rfl h5 ?_
    exact q_RP_ret rfl rfl rfl
  | false =>
    refine q_RP_cF ?_
    refine q_RP_rsF (g2 := (4, [(0, .ref 89), (1, .int a1), (2, .int a2)], [], (q_kN s c n))) rfl rfl h5 ?_
    refine q_RP_seg (g2 := (6, [(0, .ref 89), (1, .int a1), (2, .int a2)], [.int 3, .int a1], (q_kN s c n))) 2 (fun _ _ => rfl) ?_
    cases h6 : decide (a1 < 3) with
    | true =>
      refine q_RP_cT ?_
      refine q_RP_rsT (g2 := (10, [(0, .ref 89), (1, .int a1), (2, .int a2)], [], (q_kN s c n))) rfl rfl h6 ?_
      refine q_RP_seg (g2 := (15, [(0, .ref 89), (1, .int a1), (2, .int a2)], [.int a1, .ref 90], (q_kN s c n))) 3 (fun _ _ => rfl) ?_
      refine q_RP_rsT (g2 := (16, [(0, .ref 89), (1, .int a1), (2, .int a2)], [.int ((s.1 26) (a1.toNatClampNeg))], (q_kN s c n))) rfl rfl (q_in_bd (x := a1) (n := 3) (U := 2) (L := 0) (q_lo1 h5) (q_hi1 h6)) ?_
      refine q_RP_seg (g2 := (24, [(3, .int (((s.1 26) (a1.toNatClampNeg)) + a2)), (0, .ref 89), (1, .int a1), (2, .int a2)], [.int a1, .ref 93], (q_kN s c n))) 6 (fun _ _ => rfl) ?_
      refine q_RP_rsT (g2 := (25, [(3, .int (((s.1 26) (a1.toNatClampNeg)) + a2)), (0, .ref 89), (1, .int a1), (2, .int a2)], [.int ((s.1 29) (a1.toNatClampNeg))], (q_kN s c n))) rfl rfl (q_in_bd (x := a1) (n := 3) (U := 2) (L := 0) (q_lo1 h5) (q_hi1 h6)) ?_
      refine q_RP_seg (g2 := (36, [(4, .int ((s.1 29) (a1.toNatClampNeg))), (3, .int (((s.1 26) (a1.toNatClampNeg)) + a2)), (0, .ref 89), (1, .int a1), (2, .int a2)], [.int ((((s.1 26) (a1.toNatClampNeg)) + a2) - (((s.1 26) (a1.toNatClampNeg)) + a2) / 65536 * 65536), .int a1, .ref 90], (q_kN s c n))) 7 (fun _ _ => rfl) ?_
      refine q_RP_rsT (g2 := (37, [(4, .int ((s.1 29) (a1.toNatClampNeg))), (3, .int (((s.1 26) (a1.toNatClampNeg)) + a2)), (0, .ref 89), (1, .int a1), (2, .int a2)], [], (q_kN (q_sA s 26 (upd (s.1 26) (a1.toNatClampNeg) ((((s.1 26) (a1.toNatClampNeg)) + a2) - (((s.1 26) (a1.toNatClampNeg)) + a2) / 65536 * 65536))) c n))) rfl rfl (q_in_bd (x := a1) (n := 3) (U := 2) (L := 0) (q_lo1 h5) (q_hi1 h6)) ?_
      refine q_RP_seg (g2 := (40, [(4, .int ((s.1 29) (a1.toNatClampNeg))), (3, .int (((s.1 26) (a1.toNatClampNeg)) + a2)), (0, .ref 89), (1, .int a1), (2, .int a2)], [.int 65535, .int (((s.1 26) (a1.toNatClampNeg)) + a2)], (q_kN (q_sA s 26 (upd (s.1 26) (a1.toNatClampNeg) ((((s.1 26) (a1.toNatClampNeg)) + a2) - (((s.1 26) (a1.toNatClampNeg)) + a2) / 65536 * 65536))) c n))) 2 (fun _ _ => rfl) ?_
      cases h7 : decide (65535 < ((s.1 26) (a1.toNatClampNeg)) + a2) with
      | true =>
        refine q_RP_cT ?_
        refine q_RP_rsF (g2 := (43, [(4, .int ((s.1 29) (a1.toNatClampNeg))), (3, .int (((s.1 26) (a1.toNatClampNeg)) + a2)), (0, .ref 89), (1, .int a1), (2, .int a2)], [], (q_kN (q_sA s 26 (upd (s.1 26) (a1.toNatClampNeg) ((((s.1 26) (a1.toNatClampNeg)) + a2) - (((s.1 26) (a1.toNatClampNeg)) + a2) / 65536 * 65536))) c n))) rfl rfl (q_d_geT h7) ?_
        refine q_RP_seg (g2 := (48, [(4, .int ((s.1 29) (a1.toNatClampNeg))), (3, .int (((s.1 26) (a1.toNatClampNeg)) + a2)), (0, .ref 89), (1, .int a1), (2, .int a2)], [.int 1, .int (((s.1 29) (a1.toNatClampNeg)) &&& 3)], (q_kN (q_sA s 26 (upd (s.1 26) (a1.toNatClampNeg) ((((s.1 26) (a1.toNatClampNeg)) + a2) - (((s.1 26) (a1.toNatClampNeg)) + a2) / 65536 * 65536))) c n))) 4 (fun _ _ => rfl) ?_
        cases h8 : decide (((s.1 29) (a1.toNatClampNeg)) &&& 3 = 1) with
        | true =>
          refine q_RP_cT ?_
          refine q_RP_rsT (g2 := (59, [(4, .int ((s.1 29) (a1.toNatClampNeg))), (3, .int (((s.1 26) (a1.toNatClampNeg)) + a2)), (0, .ref 89), (1, .int a1), (2, .int a2)], [], (q_kN (q_sA s 26 (upd (s.1 26) (a1.toNatClampNeg) ((((s.1 26) (a1.toNatClampNeg)) + a2) - (((s.1 26) (a1.toNatClampNeg)) + a2) / 65536 * 65536))) c n))) rfl rfl h8 ?_
          exact q_RP_xt (q_xt_mk (q_mn1 2 rfl (q_mn1 3 rfl (q_mn1 0 rfl q_mn0))) rfl) (dzt_N169_89_59 c n (q_sA s 26 (upd (s.1 26) (a1.toNatClampNeg) ((((s.1 26) (a1.toNatClampNeg)) + a2) - (((s.1 26) (a1.toNatClampNeg)) + a2) / 65536 * 65536))) a1 ((s.1 29) (a1.toNatClampNeg)))
        | false =>
          refine q_RP_cF ?_
          refine q_RP_rsF (g2 := (51, [(4, .int ((s.1 29) (a1.toNatClampNeg))), (3, .int (((s.1 26) (a1.toNatClampNeg)) + a2)), (0, .ref 89), (1, .int a1), (2, .int a2)], [], (q_kN (q_sA s 26 (upd (s.1 26) (a1.toNatClampNeg) ((((s.1 26) (a1.toNatClampNeg)) + a2) - (((s.1 26) (a1.toNatClampNeg)) + a2) / 65536 * 65536))) c n))) rfl rfl h8 ?_
          refine q_RP_seg (g2 := (56, [(4, .int ((s.1 29) (a1.toNatClampNeg))), (3, .int (((s.1 26) (a1.toNatClampNeg)) + a2)), (0, .ref 89), (1, .int a1), (2, .int a2)], [.int 2, .int (((s.1 29) (a1.toNatClampNeg)) &&& 3)], (q_kN (q_sA s 26 (upd (s.1 26) (a1.toNatClampNeg) ((((s.1 26) (a1.toNatClampNeg)) + a2) - (((s.1 26) (a1.toNatClampNeg)) + a2) / 65536 * 65536))) c n))) 4 (fun _ _ => rfl) ?_
          cases h10 : decide (((s.1 29) (a1.toNatClampNeg)) &&& 3 = 2) with
          | true =>
            refine q_RP_cT ?_
            refine q_RP_rsF (g2 := (59, [(4, .int ((s.1 29) (a1.toNatClampNeg))), (3, .int (((s.1 26) (a1.toNatClampNeg)) + a2)), (0, .ref 89), (1, .int a1), (2, .int a2)], [], (q_kN (q_sA s 26 (upd (s.1 26) (a1.toNatClampNeg) ((((s.1 26) (a1.toNatClampNeg)) + a2) - (((s.1 26) (a1.toNatClampNeg)) + a2) / 65536 * 65536))) c n))) rfl rfl (q_d_neT h10) ?_
            exact q_RP_xt (q_xt_mk (q_mn1 2 rfl (q_mn1 3 rfl (q_mn1 0 rfl q_mn0))) rfl) (dzt_N169_89_59 c n (q_sA s 26 (upd (s.1 26) (a1.toNatClampNeg) ((((s.1 26) (a1.toNatClampNeg)) + a2) - (((s.1 26) (a1.toNatClampNeg)) + a2) / 65536 * 65536))) a1 ((s.1 29) (a1.toNatClampNeg)))
          | false =>
            refine q_RP_cF ?_
            refine q_RP_rsT (g2 := (63, [(4, .int ((s.1 29) (a1.toNatClampNeg))), (3, .int (((s.1 26) (a1.toNatClampNeg)) + a2)), (0, .ref 89), (1, .int a1), (2, .int a2)], [], (q_kN (q_sA s 26 (upd (s.1 26) (a1.toNatClampNeg) ((((s.1 26) (a1.toNatClampNeg)) + a2) - (((s.1 26) (a1.toNatClampNeg)) + a2) / 65536 * 65536))) c n))) rfl rfl (q_d_neF h10) ?_
            refine q_RP_seg (g2 := (88, [(5, .int 0), (4, .int ((s.1 29) (a1.toNatClampNeg))), (3, .int (((s.1 26) (a1.toNatClampNeg)) + a2)), (0, .ref 89), (1, .int a1), (2, .int a2)], [.int ((((s.1 29) (a1.toNatClampNeg)) / 2) + 0), .int a1, .ref 93], (q_kN (q_sA s 26 (upd (s.1 26) (a1.toNatClampNeg) ((((s.1 26) (a1.toNatClampNeg)) + a2) - (((s.1 26) (a1.toNatClampNeg)) + a2) / 65536 * 65536))) c n))) 12 (fun _ _ => rfl) ?_
            refine q_RP_rsT (g2 := (89, [(5, .int 0), (4, .int ((s.1 29) (a1.toNatClampNeg))), (3, .int (((s.1 26) (a1.toNatClampNeg)) + a2)), (0, .ref 89), (1, .int a1), (2, .int a2)], [], (q_kN (q_sA (q_sA s 26 (upd (s.1 26) (a1.toNatClampNeg) ((((s.1 26) (a1.toNatClampNeg)) + a2) - (((s.1 26) (a1.toNatClampNeg)) + a2) / 65536 * 65536))) 29 (upd (s.1 29) (a1.toNatClampNeg) ((((s.1 29) (a1.toNatClampNeg)) / 2) + 0))) c n))) rfl rfl (q_in_bd (x := a1) (n := 3) (U := 2) (L := 0) (q_lo1 h5) (q_hi1 h6)) ?_
            exact q_RP_ret rfl rfl rfl
      | false =>
        refine q_RP_cF ?_
        refine q_RP_rsT (g2 := (89, [(4, .int ((s.1 29) (a1.toNatClampNeg))), (3, .int (((s.1 26) (a1.toNatClampNeg)) + a2)), (0, .ref 89), (1, .int a1), (2, .int a2)], [], (q_kN (q_sA s 26 (upd (s.1 26) (a1.toNatClampNeg) ((((s.1 26) (a1.toNatClampNeg)) + a2) - (((s.1 26) (a1.toNatClampNeg)) + a2) / 65536 * 65536))) c n))) rfl rfl (q_d_geF h7) ?_
        exact q_RP_ret rfl rfl rfl
    | false =>
      refine q_RP_cF ?_
      refine q_RP_rsF (g2 := (9, [(0, .ref 89), (1, .int a1), (2, .int a2)], [], (q_kN s c n))) rfl rfl h6 ?_
      exact q_RP_ret rfl rfl rfl
def dz_N170_89_t_80 (s : q_S) (v1 : Int32) (v2 : Int32) : Option (q_S) :=
  cond (decide (v2 = 0)) (cond (q_in v1 3) (cond (decide (0 < (s.1 27) (v1.toNatClampNeg))) (some (q_sA s 27 (upd (s.1 27) (v1.toNatClampNeg) (((s.1 27) (v1.toNatClampNeg)) - 1)))) (some s)) none) (some s)
set_option maxHeartbeats 4000000 in
theorem dzt_N170_89_t_80 (c n : Nat) (s : q_S) (v1 : Int32) (v2 : Int32) : q_RP q_TB0 0 169 (80, [(0, .ref 89), (1, .int v1), (2, .int v2)], [], (q_kN s c n)) (q_oSN c n) (dz_N170_89_t_80 s v1 v2) := by
  unfold dz_N170_89_t_80
  refine q_RP_seg (g2 := (81, [(0, .ref 89), (1, .int v1), (2, .int v2)], [.int v2], (q_kN s c n))) 1 (fun _ _ => rfl) ?_
  cases h10 : decide (v2 = 0) with
  | true =>
    refine q_RP_cT ?_
    refine q_RP_rsF (g2 := (84, [(0, .ref 89), (1, .int v1), (2, .int v2)], [], (q_kN s c n))) rfl rfl (q_d_neT h10) ?_
    refine q_RP_seg (g2 := (89, [(0, .ref 89), (1, .int v1), (2, .int v2)], [.int v1, .ref 91], (q_kN s c n))) 3 (fun _ _ => rfl) ?_
    refine q_RP_as fun i11 => ?_
    refine q_RP_rsT (g2 := (90, [(0, .ref 89), (1, .int v1), (2, .int v2)], [.int ((s.1 27) (v1.toNatClampNeg))], (q_kN s c n))) rfl rfl i11 ?_
    cases h12 : decide (0 < (s.1 27) (v1.toNatClampNeg)) with
    | true =>
      refine q_RP_cT ?_
      refine q_RP_rsF (g2 := (93, [(0, .ref 89), (1, .int v1), (2, .int v2)], [], (q_kN s c n))) rfl rfl (q_d_geT h12) ?_
      refine q_RP_seg (g2 := (99, [(0, .ref 89), (1, .int v1), (2, .int v2)], [.int v1, .ref 91, .int v1, .ref 91], (q_kN s c n))) 4 (fun _ _ => rfl) ?_
      refine q_RP_rsT (g2 := (100, [(0, .ref 89), (1, .int v1), (2, .int v2)], [.int ((s.1 27) (v1.toNatClampNeg)), .int v1, .ref 91], (q_kN s c n))) rfl rfl i11 ?_
      refine q_RP_seg (g2 := (102, [(0, .ref 89), (1, .int v1), (2, .int v2)], [.int (((s.1 27) (v1.toNatClampNeg)) - 1), .int v1, .ref 91], (q_kN s c n))) 2 (fun _ _ => rfl) ?_
      refine q_RP_rsT (g2 := (103, [(0, .ref 89), (1, .int v1), (2, .int v2)], [], (q_kN (q_sA s 27 (upd (s.1 27) (v1.toNatClampNeg) (((s.1 27) (v1.toNatClampNeg)) - 1))) c n))) rfl rfl i11 ?_
      exact q_RP_ret rfl rfl rfl
    | false =>
      refine q_RP_cF ?_
      refine q_RP_rsT (g2 := (103, [(0, .ref 89), (1, .int v1), (2, .int v2)], [], (q_kN s c n))) rfl rfl (q_d_geF h12) ?_
      exact q_RP_ret rfl rfl rfl
  | false =>
    refine q_RP_cF ?_
    refine q_RP_rsT (g2 := (103, [(0, .ref 89), (1, .int v1), (2, .int v2)], [], (q_kN s c n))) rfl rfl (q_d_neF h10) ?_
    exact q_RP_ret rfl rfl rfl
def dz_N170_89_t (s : q_S) (a1 : Int32) (a3 : Int32) : Option (q_S) :=
  cond (decide (a1 < 0)) (some s) (cond (decide (a1 < 3)) (cond (decide (a3 - a3 / 16 * 16 < (upd (s.1 28) (a1.toNatClampNeg) (((s.1 28) (a1.toNatClampNeg)) + 1)) (a1.toNatClampNeg))) (cond (decide ((s.1 27) (a1.toNatClampNeg) < 15)) (some (q_sA (q_sA s 28 (upd (upd (s.1 28) (a1.toNatClampNeg) (((s.1 28) (a1.toNatClampNeg)) + 1)) (a1.toNatClampNeg) 0)) 27 (upd (s.1 27) (a1.toNatClampNeg) (((s.1 27) (a1.toNatClampNeg)) + 1)))) (dz_N170_89_t_80 (q_sA s 28 (upd (upd (s.1 28) (a1.toNatClampNeg) (((s.1 28) (a1.toNatClampNeg)) + 1)) (a1.toNatClampNeg) 0)) a1 1)) (some (q_sA s 28 (upd (s.1 28) (a1.toNatClampNeg) (((s.1 28) (a1.toNatClampNeg)) + 1))))) (some s))
set_option maxHeartbeats 4000000 in
theorem dzt_N170_89_t (s : q_S) (c n : Nat) (a1 : Int32) (a3 : Int32) (x : q_S) (h : dz_N170_89_t s a1 a3 = some x) : q_Ca q_TB0 1 169 [.ref 89, .int a1, .int 1, .int a3] (q_kN s c n) ((q_oSN c n) x) := by
  refine q_CaP_of (φ := (q_oSN c n)) (Nat.le_of_ble_eq_true rfl) ?_ h
  clear h
  unfold dz_N170_89_t
  refine q_RP_seg (g2 := (1, [(0, .ref 89), (1, .int a1), (2, .int 1), (3, .int a3)], [.int a1], (q_kN s c n))) 1 (fun _ _ => rfl) ?_
  cases h6 : decide (a1 < 0) with
  | true =>
    refine q_RP_cT ?_
    refine q_RP_rsT (g2 := (9, [(0, .ref 89), (1, .int a1), (2, .int 1), (3, .int a3)], [], (q_kN s c n))) rfl rfl h6 ?_
    exact q_RP_ret rfl rfl rfl
  | false =>
    refine q_RP_cF ?_
    refine q_RP_rsF (g2 := (4, [(0, .ref 89), (1, .int a1), (2, .int 1), (3, .int a3)], [], (q_kN s c n))) rfl rfl h6 ?_
    refine q_RP_seg (g2 := (6, [(0, .ref 89), (1, .int a1), (2, .int 1), (3, .int a3)], [.int 3, .int a1], (q_kN s c n))) 2 (fun _ _ => rfl) ?_
    cases h7 : decide (a1 < 3) with
    | true =>
      refine q_RP_cT ?_
      refine q_RP_rsT (g2 := (10, [(0, .ref 89), (1, .int a1), (2, .int 1), (3, .int a3)], [], (q_kN s c n))) rfl rfl h7 ?_
      refine q_RP_seg (g2 := (16, [(0, .ref 89), (1, .int a1), (2, .int 1), (3, .int a3)], [.int a1, .ref 92, .int a1, .ref 92], (q_kN s c n))) 4 (fun _ _ => rfl) ?_
      refine q_RP_rsT (g2 := (17, [(0, .ref 89), (1, .int a1), (2, .int 1), (3, .int a3)], [.int ((s.1 28) (a1.toNatClampNeg)), .int a1, .ref 92], (q_kN s c n))) rfl rfl (q_in_bd (x := a1) (n := 3) (U := 2) (L := 0) (q_lo1 h6) (q_hi1 h7)) ?_
      refine q_RP_seg (g2 := (19, [(0, .ref 89), (1, .int a1), (2, .int 1), (3, .int a3)], [.int (((s.1 28) (a1.toNatClampNeg)) + 1), .int a1, .ref 92], (q_kN s c n))) 2 (fun _ _ => rfl) ?_
      refine q_RP_rsT (g2 := (20, [(0, .ref 89), (1, .int a1), (2, .int 1), (3, .int a3)], [], (q_kN (q_sA s 28 (upd (s.1 28) (a1.toNatClampNeg) (((s.1 28) (a1.toNatClampNeg)) + 1))) c n))) rfl rfl (q_in_bd (x := a1) (n := 3) (U := 2) (L := 0) (q_lo1 h6) (q_hi1 h7)) ?_
      refine q_RP_seg (g2 := (25, [(0, .ref 89), (1, .int a1), (2, .int 1), (3, .int a3)], [.int a1, .ref 92], (q_kN (q_sA s 28 (upd (s.1 28) (a1.toNatClampNeg) (((s.1 28) (a1.toNatClampNeg)) + 1))) c n))) 3 (fun _ _ => rfl) ?_
      refine q_RP_rsT (g2 := (26, [(0, .ref 89), (1, .int a1), (2, .int 1), (3, .int a3)], [.int ((upd (s.1 28) (a1.toNatClampNeg) (((s.1 28) (a1.toNatClampNeg)) + 1)) (a1.toNatClampNeg))], (q_kN (q_sA s 28 (upd (s.1 28) (a1.toNatClampNeg) (((s.1 28) (a1.toNatClampNeg)) + 1))) c n))) rfl rfl (q_in_bd (x := a1) (n := 3) (U := 2) (L := 0) (q_lo1 h6) (q_hi1 h7)) ?_
      refine q_RP_seg (g2 := (41, [(0, .ref 89), (1, .int a1), (2, .int 1), (3, .int a3)], [.int (a3 - a3 / 16 * 16), .int ((upd (s.1 28) (a1.toNatClampNeg) (((s.1 28) (a1.toNatClampNeg)) + 1)) (a1.toNatClampNeg))], (q_kN (q_sA s 28 (upd (s.1 28) (a1.toNatClampNeg) (((s.1 28) (a1.toNatClampNeg)) + 1))) c n))) 6 (fun _ _ => rfl) ?_
      cases h8 : decide (a3 - a3 / 16 * 16 < (upd (s.1 28) (a1.toNatClampNeg) (((s.1 28) (a1.toNatClampNeg)) + 1)) (a1.toNatClampNeg)) with
      | true =>
        refine q_RP_cT ?_
        refine q_RP_rsT (g2 := (45, [(0, .ref 89), (1, .int a1), (2, .int 1), (3, .int a3)], [], (q_kN (q_sA s 28 (upd (s.1 28) (a1.toNatClampNeg) (((s.1 28) (a1.toNatClampNeg)) + 1))) c n))) rfl rfl h8 ?_
        refine q_RP_seg (g2 := (51, [(0, .ref 89), (1, .int a1), (2, .int 1), (3, .int a3)], [.int 0, .int a1, .ref 92], (q_kN (q_sA s 28 (upd (s.1 28) (a1.toNatClampNeg) (((s.1 28) (a1.toNatClampNeg)) + 1))) c n))) 4 (fun _ _ => rfl) ?_
        refine q_RP_rsT (g2 := (52, [(0, .ref 89), (1, .int a1), (2, .int 1), (3, .int a3)], [], (q_kN (q_sA s 28 (upd (upd (s.1 28) (a1.toNatClampNeg) (((s.1 28) (a1.toNatClampNeg)) + 1)) (a1.toNatClampNeg) 0)) c n))) rfl rfl (q_in_bd (x := a1) (n := 3) (U := 2) (L := 0) (q_lo1 h6) (q_hi1 h7)) ?_
        refine q_RP_seg (g2 := (61, [(0, .ref 89), (1, .int a1), (2, .int 1), (3, .int a3)], [.int a1, .ref 91], (q_kN (q_sA s 28 (upd (upd (s.1 28) (a1.toNatClampNeg) (((s.1 28) (a1.toNatClampNeg)) + 1)) (a1.toNatClampNeg) 0)) c n))) 5 (fun _ _ => rfl) ?_
        refine q_RP_rsT (g2 := (62, [(0, .ref 89), (1, .int a1), (2, .int 1), (3, .int a3)], [.int ((s.1 27) (a1.toNatClampNeg))], (q_kN (q_sA s 28 (upd (upd (s.1 28) (a1.toNatClampNeg) (((s.1 28) (a1.toNatClampNeg)) + 1)) (a1.toNatClampNeg) 0)) c n))) rfl rfl (q_in_bd (x := a1) (n := 3) (U := 2) (L := 0) (q_lo1 h6) (q_hi1 h7)) ?_
        refine q_RP_seg (g2 := (64, [(0, .ref 89), (1, .int a1), (2, .int 1), (3, .int a3)], [.int 15, .int ((s.1 27) (a1.toNatClampNeg))], (q_kN (q_sA s 28 (upd (upd (s.1 28) (a1.toNatClampNeg) (((s.1 28) (a1.toNatClampNeg)) + 1)) (a1.toNatClampNeg) 0)) c n))) 1 (fun _ _ => rfl) ?_
        cases h9 : decide ((s.1 27) (a1.toNatClampNeg) < 15) with
        | true =>
          refine q_RP_cT ?_
          refine q_RP_rsF (g2 := (67, [(0, .ref 89), (1, .int a1), (2, .int 1), (3, .int a3)], [], (q_kN (q_sA s 28 (upd (upd (s.1 28) (a1.toNatClampNeg) (((s.1 28) (a1.toNatClampNeg)) + 1)) (a1.toNatClampNeg) 0)) c n))) rfl rfl (q_d_geT h9) ?_
          refine q_RP_seg (g2 := (73, [(0, .ref 89), (1, .int a1), (2, .int 1), (3, .int a3)], [.int a1, .ref 91, .int a1, .ref 91], (q_kN (q_sA s 28 (upd (upd (s.1 28) (a1.toNatClampNeg) (((s.1 28) (a1.toNatClampNeg)) + 1)) (a1.toNatClampNeg) 0)) c n))) 4 (fun _ _ => rfl) ?_
          refine q_RP_rsT (g2 := (74, [(0, .ref 89), (1, .int a1), (2, .int 1), (3, .int a3)], [.int ((s.1 27) (a1.toNatClampNeg)), .int a1, .ref 91], (q_kN (q_sA s 28 (upd (upd (s.1 28) (a1.toNatClampNeg) (((s.1 28) (a1.toNatClampNeg)) + 1)) (a1.toNatClampNeg) 0)) c n))) rfl rfl (q_in_bd (x := a1) (n := 3) (U := 2) (L := 0) (q_lo1 h6) (q_hi1 h7)) ?_
          refine q_RP_seg (g2 := (76, [(0, .ref 89), (1, .int a1), (2, .int 1), (3, .int a3)], [.int (((s.1 27) (a1.toNatClampNeg)) + 1), .int a1, .ref 91], (q_kN (q_sA s 28 (upd (upd (s.1 28) (a1.toNatClampNeg) (((s.1 28) (a1.toNatClampNeg)) + 1)) (a1.toNatClampNeg) 0)) c n))) 2 (fun _ _ => rfl) ?_
          refine q_RP_rsT (g2 := (77, [(0, .ref 89), (1, .int a1), (2, .int 1), (3, .int a3)], [], (q_kN (q_sA (q_sA s 28 (upd (upd (s.1 28) (a1.toNatClampNeg) (((s.1 28) (a1.toNatClampNeg)) + 1)) (a1.toNatClampNeg) 0)) 27 (upd (s.1 27) (a1.toNatClampNeg) (((s.1 27) (a1.toNatClampNeg)) + 1))) c n))) rfl rfl (q_in_bd (x := a1) (n := 3) (U := 2) (L := 0) (q_lo1 h6) (q_hi1 h7)) ?_
          refine q_RP_seg (g2 := (103, [(0, .ref 89), (1, .int a1), (2, .int 1), (3, .int a3)], [], (q_kN (q_sA (q_sA s 28 (upd (upd (s.1 28) (a1.toNatClampNeg) (((s.1 28) (a1.toNatClampNeg)) + 1)) (a1.toNatClampNeg) 0)) 27 (upd (s.1 27) (a1.toNatClampNeg) (((s.1 27) (a1.toNatClampNeg)) + 1))) c n))) 1 (fun _ _ => rfl) ?_
          exact q_RP_ret rfl rfl rfl
        | false =>
          refine q_RP_cF ?_
          refine q_RP_rsT (g2 := (80, [(0, .ref 89), (1, .int a1), (2, .int 1), (3, .int a3)], [], (q_kN (q_sA s 28 (upd (upd (s.1 28) (a1.toNatClampNeg) (((s.1 28) (a1.toNatClampNeg)) + 1)) (a1.toNatClampNeg) 0)) c n))) rfl rfl (q_d_geF h9) ?_
          exact q_RP_xt (q_xt_mk (q_mn1 0 rfl (q_mn1 1 rfl (q_mn1 2 rfl q_mn0))) rfl) (dzt_N170_89_t_80 c n (q_sA s 28 (upd (upd (s.1 28) (a1.toNatClampNeg) (((s.1 28) (a1.toNatClampNeg)) + 1)) (a1.toNatClampNeg) 0)) a1 1)
      | false =>
        refine q_RP_cF ?_
        refine q_RP_rsF (g2 := (44, [(0, .ref 89), (1, .int a1), (2, .int 1), (3, .int a3)], [], (q_kN (q_sA s 28 (upd (s.1 28) (a1.toNatClampNeg) (((s.1 28) (a1.toNatClampNeg)) + 1))) c n))) rfl rfl h8 ?_
        exact q_RP_ret rfl rfl rfl
    | false =>
      refine q_RP_cF ?_
      refine q_RP_rsF (g2 := (9, [(0, .ref 89), (1, .int a1), (2, .int 1), (3, .int a3)], [], (q_kN s c n))) rfl rfl h7 ?_
      exact q_RP_ret rfl rfl rfl
def dz_N170_89_f_80 (s : q_S) (v1 : Int32) (v2 : Int32) : Option (q_S) :=
  cond (decide (v2 = 0)) (cond (q_in v1 3) (cond (decide (0 < (s.1 27) (v1.toNatClampNeg))) (some (q_sA s 27 (upd (s.1 27) (v1.toNatClampNeg) (((s.1 27) (v1.toNatClampNeg)) - 1)))) (some s)) none) (some s)
set_option maxHeartbeats 4000000 in
theorem dzt_N170_89_f_80 (c n : Nat) (s : q_S) (v1 : Int32) (v2 : Int32) : q_RP q_TB0 0 169 (80, [(0, .ref 89), (1, .int v1), (2, .int v2)], [], (q_kN s c n)) (q_oSN c n) (dz_N170_89_f_80 s v1 v2) := by
  unfold dz_N170_89_f_80
  refine q_RP_seg (g2 := (81, [(0, .ref 89), (1, .int v1), (2, .int v2)], [.int v2], (q_kN s c n))) 1 (fun _ _ => rfl) ?_
  cases h8 : decide (v2 = 0) with
  | true =>
    refine q_RP_cT ?_
    refine q_RP_rsF (g2 := (84, [(0, .ref 89), (1, .int v1), (2, .int v2)], [], (q_kN s c n))) rfl rfl (q_d_neT h8) ?_
    refine q_RP_seg (g2 := (89, [(0, .ref 89), (1, .int v1), (2, .int v2)], [.int v1, .ref 91], (q_kN s c n))) 3 (fun _ _ => rfl) ?_
    refine q_RP_as fun i9 => ?_
    refine q_RP_rsT (g2 := (90, [(0, .ref 89), (1, .int v1), (2, .int v2)], [.int ((s.1 27) (v1.toNatClampNeg))], (q_kN s c n))) rfl rfl i9 ?_
    cases h10 : decide (0 < (s.1 27) (v1.toNatClampNeg)) with
    | true =>
      refine q_RP_cT ?_
      refine q_RP_rsF (g2 := (93, [(0, .ref 89), (1, .int v1), (2, .int v2)], [], (q_kN s c n))) rfl rfl (q_d_geT h10) ?_
      refine q_RP_seg (g2 := (99, [(0, .ref 89), (1, .int v1), (2, .int v2)], [.int v1, .ref 91, .int v1, .ref 91], (q_kN s c n))) 4 (fun _ _ => rfl) ?_
      refine q_RP_rsT (g2 := (100, [(0, .ref 89), (1, .int v1), (2, .int v2)], [.int ((s.1 27) (v1.toNatClampNeg)), .int v1, .ref 91], (q_kN s c n))) rfl rfl i9 ?_
      refine q_RP_seg (g2 := (102, [(0, .ref 89), (1, .int v1), (2, .int v2)], [.int (((s.1 27) (v1.toNatClampNeg)) - 1), .int v1, .ref 91], (q_kN s c n))) 2 (fun _ _ => rfl) ?_
      refine q_RP_rsT (g2 := (103, [(0, .ref 89), (1, .int v1), (2, .int v2)], [], (q_kN (q_sA s 27 (upd (s.1 27) (v1.toNatClampNeg) (((s.1 27) (v1.toNatClampNeg)) - 1))) c n))) rfl rfl i9 ?_
      exact q_RP_ret rfl rfl rfl
    | false =>
      refine q_RP_cF ?_
      refine q_RP_rsT (g2 := (103, [(0, .ref 89), (1, .int v1), (2, .int v2)], [], (q_kN s c n))) rfl rfl (q_d_geF h10) ?_
      exact q_RP_ret rfl rfl rfl
  | false =>
    refine q_RP_cF ?_
    refine q_RP_rsT (g2 := (103, [(0, .ref 89), (1, .int v1), (2, .int v2)], [], (q_kN s c n))) rfl rfl (q_d_neF h8) ?_
    exact q_RP_ret rfl rfl rfl
def dz_N170_89_f (s : q_S) (a1 : Int32) (a3 : Int32) : Option (q_S) :=
  cond (decide (a1 < 0)) (some s) (cond (decide (a1 < 3)) (cond (decide (a3 / 16 < (upd (s.1 28) (a1.toNatClampNeg) (((s.1 28) (a1.toNatClampNeg)) + 1)) (a1.toNatClampNeg))) (dz_N170_89_f_80 (q_sA s 28 (upd (upd (s.1 28) (a1.toNatClampNeg) (((s.1 28) (a1.toNatClampNeg)) + 1)) (a1.toNatClampNeg) 0)) a1 0) (some (q_sA s 28 (upd (s.1 28) (a1.toNatClampNeg) (((s.1 28) (a1.toNatClampNeg)) + 1))))) (some s))
set_option maxHeartbeats 4000000 in
theorem dzt_N170_89_f (s : q_S) (c n : Nat) (a1 : Int32) (a3 : Int32) (x : q_S) (h : dz_N170_89_f s a1 a3 = some x) : q_Ca q_TB0 1 169 [.ref 89, .int a1, .int 0, .int a3] (q_kN s c n) ((q_oSN c n) x) := by
  refine q_CaP_of (φ := (q_oSN c n)) (Nat.le_of_ble_eq_true rfl) ?_ h
  clear h
  unfold dz_N170_89_f
  refine q_RP_seg (g2 := (1, [(0, .ref 89), (1, .int a1), (2, .int 0), (3, .int a3)], [.int a1], (q_kN s c n))) 1 (fun _ _ => rfl) ?_
  cases h5 : decide (a1 < 0) with
  | true =>
    refine q_RP_cT ?_
    refine q_RP_rsT (g2 := (9, [(0, .ref 89), (1, .int a1), (2, .int 0), (3, .int a3)], [], (q_kN s c n))) rfl rfl h5 ?_
    exact q_RP_ret rfl rfl rfl
  | false =>
    refine q_RP_cF ?_
    refine q_RP_rsF (g2 := (4, [(0, .ref 89), (1, .int a1), (2, .int 0), (3, .int a3)], [], (q_kN s c n))) rfl rfl h5 ?_
    refine q_RP_seg (g2 := (6, [(0, .ref 89), (1, .int a1), (2, .int 0), (3, .int a3)], [.int 3, .int a1], (q_kN s c n))) 2 (fun _ _ => rfl) ?_
    cases h6 : decide (a1 < 3) with
    | true =>
      refine q_RP_cT ?_
      refine q_RP_rsT (g2 := (10, [(0, .ref 89), (1, .int a1), (2, .int 0), (3, .int a3)], [], (q_kN s c n))) rfl rfl h6 ?_
      refine q_RP_seg (g2 := (16, [(0, .ref 89), (1, .int a1), (2, .int 0), (3, .int a3)], [.int a1, .ref 92, .int a1, .ref 92], (q_kN s c n))) 4 (fun _ _ => rfl) ?_
      refine q_RP_rsT (g2 := (17, [(0, .ref 89), (1, .int a1), (2, .int 0), (3, .int a3)], [.int ((s.1 28) (a1.toNatClampNeg)), .int a1, .ref 92], (q_kN s c n))) rfl rfl (q_in_bd (x := a1) (n := 3) (U := 2) (L := 0) (q_lo1 h5) (q_hi1 h6)) ?_
      refine q_RP_seg (g2 := (19, [(0, .ref 89), (1, .int a1), (2, .int 0), (3, .int a3)], [.int (((s.1 28) (a1.toNatClampNeg)) + 1), .int a1, .ref 92], (q_kN s c n))) 2 (fun _ _ => rfl) ?_
      refine q_RP_rsT (g2 := (20, [(0, .ref 89), (1, .int a1), (2, .int 0), (3, .int a3)], [], (q_kN (q_sA s 28 (upd (s.1 28) (a1.toNatClampNeg) (((s.1 28) (a1.toNatClampNeg)) + 1))) c n))) rfl rfl (q_in_bd (x := a1) (n := 3) (U := 2) (L := 0) (q_lo1 h5) (q_hi1 h6)) ?_
      refine q_RP_seg (g2 := (25, [(0, .ref 89), (1, .int a1), (2, .int 0), (3, .int a3)], [.int a1, .ref 92], (q_kN (q_sA s 28 (upd (s.1 28) (a1.toNatClampNeg) (((s.1 28) (a1.toNatClampNeg)) + 1))) c n))) 3 (fun _ _ => rfl) ?_
      refine q_RP_rsT (g2 := (26, [(0, .ref 89), (1, .int a1), (2, .int 0), (3, .int a3)], [.int ((upd (s.1 28) (a1.toNatClampNeg) (((s.1 28) (a1.toNatClampNeg)) + 1)) (a1.toNatClampNeg))], (q_kN (q_sA s 28 (upd (s.1 28) (a1.toNatClampNeg) (((s.1 28) (a1.toNatClampNeg)) + 1))) c n))) rfl rfl (q_in_bd (x := a1) (n := 3) (U := 2) (L := 0) (q_lo1 h5) (q_hi1 h6)) ?_
      refine q_RP_seg (g2 := (41, [(0, .ref 89), (1, .int a1), (2, .int 0), (3, .int a3)], [.int (a3 / 16), .int ((upd (s.1 28) (a1.toNatClampNeg) (((s.1 28) (a1.toNatClampNeg)) + 1)) (a1.toNatClampNeg))], (q_kN (q_sA s 28 (upd (s.1 28) (a1.toNatClampNeg) (((s.1 28) (a1.toNatClampNeg)) + 1))) c n))) 5 (fun _ _ => rfl) ?_
      cases h7 : decide (a3 / 16 < (upd (s.1 28) (a1.toNatClampNeg) (((s.1 28) (a1.toNatClampNeg)) + 1)) (a1.toNatClampNeg)) with
      | true =>
        refine q_RP_cT ?_
        refine q_RP_rsT (g2 := (45, [(0, .ref 89), (1, .int a1), (2, .int 0), (3, .int a3)], [], (q_kN (q_sA s 28 (upd (s.1 28) (a1.toNatClampNeg) (((s.1 28) (a1.toNatClampNeg)) + 1))) c n))) rfl rfl h7 ?_
        refine q_RP_seg (g2 := (51, [(0, .ref 89), (1, .int a1), (2, .int 0), (3, .int a3)], [.int 0, .int a1, .ref 92], (q_kN (q_sA s 28 (upd (s.1 28) (a1.toNatClampNeg) (((s.1 28) (a1.toNatClampNeg)) + 1))) c n))) 4 (fun _ _ => rfl) ?_
        refine q_RP_rsT (g2 := (52, [(0, .ref 89), (1, .int a1), (2, .int 0), (3, .int a3)], [], (q_kN (q_sA s 28 (upd (upd (s.1 28) (a1.toNatClampNeg) (((s.1 28) (a1.toNatClampNeg)) + 1)) (a1.toNatClampNeg) 0)) c n))) rfl rfl (q_in_bd (x := a1) (n := 3) (U := 2) (L := 0) (q_lo1 h5) (q_hi1 h6)) ?_
        refine q_RP_seg (g2 := (80, [(0, .ref 89), (1, .int a1), (2, .int 0), (3, .int a3)], [], (q_kN (q_sA s 28 (upd (upd (s.1 28) (a1.toNatClampNeg) (((s.1 28) (a1.toNatClampNeg)) + 1)) (a1.toNatClampNeg) 0)) c n))) 2 (fun _ _ => rfl) ?_
        exact q_RP_xt (q_xt_mk (q_mn1 0 rfl (q_mn1 1 rfl (q_mn1 2 rfl q_mn0))) rfl) (dzt_N170_89_f_80 c n (q_sA s 28 (upd (upd (s.1 28) (a1.toNatClampNeg) (((s.1 28) (a1.toNatClampNeg)) + 1)) (a1.toNatClampNeg) 0)) a1 0)
      | false =>
        refine q_RP_cF ?_
        refine q_RP_rsF (g2 := (44, [(0, .ref 89), (1, .int a1), (2, .int 0), (3, .int a3)], [], (q_kN (q_sA s 28 (upd (s.1 28) (a1.toNatClampNeg) (((s.1 28) (a1.toNatClampNeg)) + 1))) c n))) rfl rfl h7 ?_
        exact q_RP_ret rfl rfl rfl
    | false =>
      refine q_RP_cF ?_
      refine q_RP_rsF (g2 := (9, [(0, .ref 89), (1, .int a1), (2, .int 0), (3, .int a3)], [], (q_kN s c n))) rfl rfl h6 ?_
      exact q_RP_ret rfl rfl rfl
def dz_N172 (s : q_S) (a0 : Int32) (a1 : Int32) (a2 : Int32) : Int32 :=
  cond (decide (a0 < 0)) (0) (cond (decide (2 < a0)) (0) (cond (decide (a0 = 0)) ((a1 / 4096)) (cond (decide (a0 = 1)) (cond (decide (a1 < 32768)) (0) (15)) ((a2 - a2 / 16 * 16)))))
set_option maxHeartbeats 4000000 in
theorem dzt_N172 (s : q_S) (c n : Nat) (a0 : Int32) (a1 : Int32) (a2 : Int32) : q_Ca q_TB0 1 171 [.int a0, .int a1, .int a2] (q_kN s c n) ((q_oP (q_kN s c n)) (dz_N172 s a0 a1 a2)) := by
  refine q_CaT_of (φ := (q_oP (q_kN s c n))) (Nat.le_of_ble_eq_true rfl) ?_
  unfold dz_N172
  refine q_RT_seg (g2 := (1, [(0, .int a0), (1, .int a1), (2, .int a2)], [.int a0], (q_kN s c n))) 1 (fun _ _ => rfl) ?_
  cases h1 : decide (a0 < 0) with
  | true =>
    refine q_RT_cT ?_
    refine q_RT_st1 (g2 := (52, [(0, .int a0), (1, .int a1), (2, .int a2)], [], (q_kN s c n))) rfl (if_pos (Or.inl (Int32.lt_iff_toInt_lt.mp (of_decide_eq_true h1)))) ?_
    refine q_RT_seg (g2 := (53, [(0, .int a0), (1, .int a1), (2, .int a2)], [.int 0], (q_kN s c n))) 1 (fun _ _ => rfl) ?_
    exact q_RT_ret rfl rfl rfl
  | false =>
    refine q_RT_cF ?_
    cases h2 : decide (2 < a0) with
    | true =>
      refine q_RT_cT ?_
      refine q_RT_st1 (g2 := (52, [(0, .int a0), (1, .int a1), (2, .int a2)], [], (q_kN s c n))) rfl (if_pos (Or.inr (Int32.lt_iff_toInt_lt.mp (of_decide_eq_true h2)))) ?_
      refine q_RT_seg (g2 := (53, [(0, .int a0), (1, .int a1), (2, .int a2)], [.int 0], (q_kN s c n))) 1 (fun _ _ => rfl) ?_
      exact q_RT_ret rfl rfl rfl
    | false =>
      refine q_RT_cF ?_
      cases h3 : decide (a0 = 0) with
      | true =>
        refine q_RT_cT ?_
        refine q_RT_st1 (g2 := (28, [(0, .int a0), (1, .int a1), (2, .int a2)], [], (q_kN s c n))) rfl (by rw [of_decide_eq_true h3]; rfl) ?_
        refine q_RT_seg (g2 := (33, [(0, .int a0), (1, .int a1), (2, .int a2)], [.int (a1 / 4096)], (q_kN s c n))) 3 (fun _ _ => rfl) ?_
        exact q_RT_ret rfl rfl rfl
      | false =>
        refine q_RT_cF ?_
        cases h4 : decide (a0 = 1) with
        | true =>
          refine q_RT_cT ?_
          refine q_RT_st1 (g2 := (34, [(0, .int a0), (1, .int a1), (2, .int a2)], [], (q_kN s c n))) rfl (by rw [of_decide_eq_true h4]; rfl) ?_
          refine q_RT_seg (g2 := (37, [(0, .int a0), (1, .int a1), (2, .int a2)], [.int 32768, .int a1], (q_kN s c n))) 2 (fun _ _ => rfl) ?_
          cases h5 : decide (a1 < 32768) with
          | true =>
            refine q_RT_cT ?_
            refine q_RT_rsT (g2 := (45, [(0, .int a0), (1, .int a1), (2, .int a2)], [], (q_kN s c n))) rfl rfl h5 ?_
            refine q_RT_seg (g2 := (46, [(0, .int a0), (1, .int a1), (2, .int a2)], [.int 0], (q_kN s c n))) 1 (fun _ _ => rfl) ?_
            exact q_RT_ret rfl rfl rfl
          | false =>
            refine q_RT_cF ?_
            refine q_RT_rsF (g2 := (40, [(0, .int a0), (1, .int a1), (2, .int a2)], [], (q_kN s c n))) rfl rfl h5 ?_
            refine q_RT_seg (g2 := (46, [(0, .int a0), (1, .int a1), (2, .int a2)], [.int 15], (q_kN s c n))) 2 (fun _ _ => rfl) ?_
            exact q_RT_ret rfl rfl rfl
        | false =>
          refine q_RT_cF ?_
          have h6 : a0 = 2 := Int32.toInt_inj.mp (by have e0 := q_neI h3 (n := 0); have e1 := q_neI h4 (n := 1); have l1 : 0 ≤ (a0).toInt := q_lo1 h1; have l2 : (a0).toInt ≤ 2 := q_hi2 h2; show (a0).toInt = 2; omega)
          refine q_RT_st1 (g2 := (47, [(0, .int a0), (1, .int a1), (2, .int a2)], [], (q_kN s c n))) rfl (by rw [h6]; rfl) ?_
          refine q_RT_seg (g2 := (51, [(0, .int a0), (1, .int a1), (2, .int a2)], [.int (a2 - a2 / 16 * 16)], (q_kN s c n))) 3 (fun _ _ => rfl) ?_
          exact q_RT_ret rfl rfl rfl
def dz_N171_89 (s : q_S) (a1 : Int32) (a2 : Int32) : Option (Int32) :=
  cond (decide (a1 < 0)) (some 0) (cond (decide (a1 < 3)) (q_let (dz_N172 s ((a2 >>> ((1 &&& 31) : Int32)) &&& 3) ((s.1 26) (a1.toNatClampNeg)) ((s.1 29) (a1.toNatClampNeg))) fun r2 => cond (decide (a1 = 0)) (cond (decide (a2 &&& 8 = 8)) (cond (decide ((s.1 26) 2 < 32768)) (some r2) (some ((15 : Int32) - r2))) (some r2)) (cond (decide (a2 &&& 8 = 8)) (cond (q_in (a1 - 1) 3) (cond (decide ((s.1 26) ((a1 - 1).toNatClampNeg) < 32768)) (some r2) (some ((15 : Int32) - r2))) none) (some r2))) (some 0))
set_option maxHeartbeats 4000000 in
theorem dzt_N171_89 (s : q_S) (c n : Nat) (a1 : Int32) (a2 : Int32) (x : Int32) (h : dz_N171_89 s a1 a2 = some x) : q_Ca q_TB0 2 170 [.ref 89, .int a1, .int a2] (q_kN s c n) ((q_oP (q_kN s c n)) x) := by
  refine q_CaP_of (φ := (q_oP (q_kN s c n))) (Nat.le_of_ble_eq_true rfl) ?_ h
  clear h
  unfold dz_N171_89
  refine q_RP_seg (g2 := (1, [(0, .ref 89), (1, .int a1), (2, .int a2)], [.int a1], (q_kN s c n))) 1 (fun _ _ => rfl) ?_
  cases h7 : decide (a1 < 0) with
  | true =>
    refine q_RP_cT ?_
    refine q_RP_rsT (g2 := (9, [(0, .ref 89), (1, .int a1), (2, .int a2)], [], (q_kN s c n))) rfl rfl h7 ?_
    refine q_RP_seg (g2 := (10, [(0, .ref 89), (1, .int a1), (2, .int a2)], [.int 0], (q_kN s c n))) 1 (fun _ _ => rfl) ?_
    exact q_RP_ret rfl rfl rfl
  | false =>
    refine q_RP_cF ?_
    refine q_RP_rsF (g2 := (4, [(0, .ref 89), (1, .int a1), (2, .int a2)], [], (q_kN s c n))) rfl rfl h7 ?_
    refine q_RP_seg (g2 := (6, [(0, .ref 89), (1, .int a1), (2, .int a2)], [.int 3, .int a1], (q_kN s c n))) 2 (fun _ _ => rfl) ?_
    cases h8 : decide (a1 < 3) with
    | true =>
      refine q_RP_cT ?_
      refine q_RP_rsT (g2 := (11, [(0, .ref 89), (1, .int a1), (2, .int a2)], [], (q_kN s c n))) rfl rfl h8 ?_
      refine q_RP_seg (g2 := (21, [(0, .ref 89), (1, .int a1), (2, .int a2)], [.int a1, .ref 90, .int ((a2 >>> ((1 &&& 31) : Int32)) &&& 3)], (q_kN s c n))) 8 (fun _ _ => rfl) ?_
      refine q_RP_rsT (g2 := (22, [(0, .ref 89), (1, .int a1), (2, .int a2)], [.int ((s.1 26) (a1.toNatClampNeg)), .int ((a2 >>> ((1 &&& 31) : Int32)) &&& 3)], (q_kN s c n))) rfl rfl (q_in_bd (x := a1) (n := 3) (U := 2) (L := 0) (q_lo1 h7) (q_hi1 h8)) ?_
      refine q_RP_seg (g2 := (27, [(0, .ref 89), (1, .int a1), (2, .int a2)], [.int a1, .ref 93, .int ((s.1 26) (a1.toNatClampNeg)), .int ((a2 >>> ((1 &&& 31) : Int32)) &&& 3)], (q_kN s c n))) 3 (fun _ _ => rfl) ?_
      refine q_RP_rsT (g2 := (28, [(0, .ref 89), (1, .int a1), (2, .int a2)], [.int ((s.1 29) (a1.toNatClampNeg)), .int ((s.1 26) (a1.toNatClampNeg)), .int ((a2 >>> ((1 &&& 31) : Int32)) &&& 3)], (q_kN s c n))) rfl rfl (q_in_bd (x := a1) (n := 3) (U := 2) (L := 0) (q_lo1 h7) (q_hi1 h8)) ?_
      refine q_RP_call (v := (some (.int (dz_N172 s ((a2 >>> ((1 &&& 31) : Int32)) &&& 3) ((s.1 26) (a1.toNatClampNeg)) ((s.1 29) (a1.toNatClampNeg)))))) (h2 := (q_kN s c n)) rfl rfl ((dzt_N172 s c n ((a2 >>> ((1 &&& 31) : Int32)) &&& 3) ((s.1 26) (a1.toNatClampNeg)) ((s.1 29) (a1.toNatClampNeg))).le (Nat.le_of_ble_eq_true rfl)) ?_
      generalize dz_N172 s ((a2 >>> ((1 &&& 31) : Int32)) &&& 3) ((s.1 26) (a1.toNatClampNeg)) ((s.1 29) (a1.toNatClampNeg)) = r2
      refine q_RP_let ?_
      show q_RP _ _ _ (31, [(0, .ref 89), (1, .int a1), (2, .int a2)], [.int r2], (q_kN s c n)) _ _
      refine q_RP_seg (g2 := (33, [(3, .int r2), (0, .ref 89), (1, .int a1), (2, .int a2)], [.int a1], (q_kN s c n))) 2 (fun _ _ => rfl) ?_
      cases h9 : decide (a1 = 0) with
      | true =>
        refine q_RP_cT ?_
        refine q_RP_rsF (g2 := (36, [(3, .int r2), (0, .ref 89), (1, .int a1), (2, .int a2)], [], (q_kN s c n))) rfl rfl (q_d_neT h9) ?_
        refine q_RP_seg (g2 := (51, [(4, .int 2), (3, .int r2), (0, .ref 89), (1, .int a1), (2, .int a2)], [.int 8, .int (a2 &&& 8)], (q_kN s c n))) 7 (fun _ _ => rfl) ?_
        cases h10 : decide (a2 &&& 8 = 8) with
        | true =>
          refine q_RP_cT ?_
          refine q_RP_rsF (g2 := (54, [(4, .int 2), (3, .int r2), (0, .ref 89), (1, .int a1), (2, .int a2)], [], (q_kN s c n))) rfl rfl (q_d_neT h10) ?_
          refine q_RP_seg (g2 := (61, [(4, .int 2), (3, .int r2), (0, .ref 89), (1, .int a1), (2, .int a2)], [.int ((s.1 26) 2)], (q_kN s c n))) 4 (fun _ _ => rfl) ?_
          refine q_RP_seg (g2 := (63, [(4, .int 2), (3, .int r2), (0, .ref 89), (1, .int a1), (2, .int a2)], [.int 32768, .int ((s.1 26) 2)], (q_kN s c n))) 1 (fun _ _ => rfl) ?_
          cases h11 : decide ((s.1 26) 2 < 32768) with
          | true =>
            refine q_RP_cT ?_
            refine q_RP_rsT (g2 := (70, [(4, .int 2), (3, .int r2), (0, .ref 89), (1, .int a1), (2, .int a2)], [], (q_kN s c n))) rfl rfl h11 ?_
            refine q_RP_seg (g2 := (86, [(5, .int 0), (4, .int 2), (3, .int r2), (0, .ref 89), (1, .int a1), (2, .int a2)], [.int r2], (q_kN s c n))) 5 (fun _ _ => rfl) ?_
            exact q_RP_ret rfl rfl rfl
          | false =>
            refine q_RP_cF ?_
            refine q_RP_rsF (g2 := (66, [(4, .int 2), (3, .int r2), (0, .ref 89), (1, .int a1), (2, .int a2)], [], (q_kN s c n))) rfl rfl h11 ?_
            refine q_RP_seg (g2 := (86, [(5, .int 1), (4, .int 2), (3, .int r2), (0, .ref 89), (1, .int a1), (2, .int a2)], [.int ((15 : Int32) - r2)], (q_kN s c n))) 9 (fun _ _ => rfl) ?_
            exact q_RP_ret rfl rfl rfl
        | false =>
          refine q_RP_cF ?_
          refine q_RP_rsT (g2 := (70, [(4, .int 2), (3, .int r2), (0, .ref 89), (1, .int a1), (2, .int a2)], [], (q_kN s c n))) rfl rfl (q_d_neF h10) ?_
          refine q_RP_seg (g2 := (86, [(5, .int 0), (4, .int 2), (3, .int r2), (0, .ref 89), (1, .int a1), (2, .int a2)], [.int r2], (q_kN s c n))) 5 (fun _ _ => rfl) ?_
          exact q_RP_ret rfl rfl rfl
      | false =>
        refine q_RP_cF ?_
        refine q_RP_rsT (g2 := (40, [(3, .int r2), (0, .ref 89), (1, .int a1), (2, .int a2)], [], (q_kN s c n))) rfl rfl (q_d_neF h9) ?_
        refine q_RP_seg (g2 := (51, [(4, .int (a1 - 1)), (3, .int r2), (0, .ref 89), (1, .int a1), (2, .int a2)], [.int 8, .int (a2 &&& 8)], (q_kN s c n))) 8 (fun _ _ => rfl) ?_
        cases h12 : decide (a2 &&& 8 = 8) with
        | true =>
          refine q_RP_cT ?_
          refine q_RP_rsF (g2 := (54, [(4, .int (a1 - 1)), (3, .int r2), (0, .ref 89), (1, .int a1), (2, .int a2)], [], (q_kN s c n))) rfl rfl (q_d_neT h12) ?_
          refine q_RP_seg (g2 := (60, [(4, .int (a1 - 1)), (3, .int r2), (0, .ref 89), (1, .int a1), (2, .int a2)], [.int (a1 - 1), .ref 90], (q_kN s c n))) 3 (fun _ _ => rfl) ?_
          refine q_RP_as fun i13 => ?_
          refine q_RP_rsT (g2 := (61, [(4, .int (a1 - 1)), (3, .int r2), (0, .ref 89), (1, .int a1), (2, .int a2)], [.int ((s.1 26) ((a1 - 1).toNatClampNeg))], (q_kN s c n))) rfl rfl i13 ?_
          refine q_RP_seg (g2 := (63, [(4, .int (a1 - 1)), (3, .int r2), (0, .ref 89), (1, .int a1), (2, .int a2)], [.int 32768, .int ((s.1 26) ((a1 - 1).toNatClampNeg))], (q_kN s c n))) 1 (fun _ _ => rfl) ?_
          cases h14 : decide ((s.1 26) ((a1 - 1).toNatClampNeg) < 32768) with
          | true =>
            refine q_RP_cT ?_
            refine q_RP_rsT (g2 := (70, [(4, .int (a1 - 1)), (3, .int r2), (0, .ref 89), (1, .int a1), (2, .int a2)], [], (q_kN s c n))) rfl rfl h14 ?_
            refine q_RP_seg (g2 := (86, [(5, .int 0), (4, .int (a1 - 1)), (3, .int r2), (0, .ref 89), (1, .int a1), (2, .int a2)], [.int r2], (q_kN s c n))) 5 (fun _ _ => rfl) ?_
            exact q_RP_ret rfl rfl rfl
          | false =>
            refine q_RP_cF ?_
            refine q_RP_rsF (g2 := (66, [(4, .int (a1 - 1)), (3, .int r2), (0, .ref 89), (1, .int a1), (2, .int a2)], [], (q_kN s c n))) rfl rfl h14 ?_
            refine q_RP_seg (g2 := (86, [(5, .int 1), (4, .int (a1 - 1)), (3, .int r2), (0, .ref 89), (1, .int a1), (2, .int a2)], [.int ((15 : Int32) - r2)], (q_kN s c n))) 9 (fun _ _ => rfl) ?_
            exact q_RP_ret rfl rfl rfl
        | false =>
          refine q_RP_cF ?_
          refine q_RP_rsT (g2 := (70, [(4, .int (a1 - 1)), (3, .int r2), (0, .ref 89), (1, .int a1), (2, .int a2)], [], (q_kN s c n))) rfl rfl (q_d_neF h12) ?_
          refine q_RP_seg (g2 := (86, [(5, .int 0), (4, .int (a1 - 1)), (3, .int r2), (0, .ref 89), (1, .int a1), (2, .int a2)], [.int r2], (q_kN s c n))) 5 (fun _ _ => rfl) ?_
          exact q_RP_ret rfl rfl rfl
    | false =>
      refine q_RP_cF ?_
      refine q_RP_rsF (g2 := (9, [(0, .ref 89), (1, .int a1), (2, .int a2)], [], (q_kN s c n))) rfl rfl h8 ?_
      refine q_RP_seg (g2 := (10, [(0, .ref 89), (1, .int a1), (2, .int a2)], [.int 0], (q_kN s c n))) 1 (fun _ _ => rfl) ?_
      exact q_RP_ret rfl rfl rfl
