def dz_X7_64_236 (s : q_S) (a1 : Int32) : Option (q_S × Int32 × Nat) :=
  q_let (dz_B329_64 (q_vw 2 71 0 s)) fun r586 => cond (decide (a1 < 0)) (some (s, 1, 1)) (cond (decide (a1 < r586)) ((dz_B327_64 (q_vw 2 71 0 s) a1).bind fun r587 => some ((q_sL s 172 (vp_updL (s.2.2 172) 0 r587.toInt64)), 0, 0)) (some (s, 1, 1)))
set_option maxHeartbeats 4000000 in
theorem dzt_X7_64_236 (z L : Nat) (xs : Nat → Int32) (s : q_S) (c n : Nat) (a1 : Int32) (x : q_S × Int32 × Nat) (h : dz_X7_64_236 s a1 = some x) : q_Ca (q_TBs z L xs) 7 7 [.ref 64, .int a1, .ref 236] (q_kX s c n) ((q_oEX c n) x) := by
  refine q_CaP_of (φ := (q_oEX c n)) (Nat.le_of_ble_eq_true rfl) ?_ h
  clear h
  unfold dz_X7_64_236
  refine q_RP_seg (g2 := (4, [(0, .ref 64), (1, .int a1), (2, .ref 236)], [.int a1, .ref 64, .int 0, .ref 236], (q_kX s c n))) 4 (fun _ _ => rfl) ?_
  generalize er586 : dz_B329_64 (q_vw 2 71 0 s) = r586
  refine q_RP_let ?_
  cases h743 : decide (a1 < 0) with
  | true =>
    refine q_RP_cT ?_
    refine q_RP_callH (E := "java/lang/IndexOutOfBoundsException") (tg := 13) (i := 3) (h2 := (q_kX s (c + 1) (n + 6))) rfl rfl ?_ rfl ?_
    · refine q_Ca_of (Nat.le_of_ble_eq_true rfl) ?_
      refine q_Ru_seg (g2 := (5, [(0, .ref 64), (1, .int a1)], [.ref 135, .int a1], (q_kX s c n))) 3 (fun _ _ => rfl) ?_
      refine q_Ru_call (v := (some (.int r586))) (h2 := (q_kX s c n)) rfl rfl ?_ ?_
      · exact (q_emBXp rfl (fun _ => rfl) (q_cE (φ := (q_oP (q_kB (q_vw 2 71 0 s) c n))) er586 (dzt_B329_64 z L xs (q_vw 2 71 0 s) c n))).le (Nat.le_of_ble_eq_true rfl)
      show q_Ru _ _ _ (8, [(0, .ref 64), (1, .int a1)], [.int r586, .int a1], (q_kX s c n)) _
      refine q_Ru_callX (E := "java/lang/IndexOutOfBoundsException") (h2 := (q_kX s (c + 1) (n + 6))) rfl rfl ?_
      refine q_Ca_of (Nat.le_of_ble_eq_true rfl) ?_
      refine q_Ru_seg (g2 := (1, [(0, .int a1), (1, .int r586)], [.int a1], (q_kX s c n))) 1 (fun _ _ => rfl) ?_
      refine q_Ru_rsT (g2 := (9, [(0, .int a1), (1, .int r586)], [], (q_kX s c n))) rfl rfl h743 ?_
      exact q_Ru_thr rfl rfl
    show q_RP _ _ _ (13, [(0, .ref 64), (1, .int a1), (2, .ref 236)], [], (q_kX s (c + 1) (n + 6))) _ _
    refine q_RP_seg (g2 := (14, [(0, .ref 64), (1, .int a1), (2, .ref 236)], [.int 1], (q_kX s (c + 1) (n + 6)))) 1 (fun _ _ => rfl) ?_
    exact q_RP_ret rfl rfl rfl
  | false =>
    refine q_RP_cF ?_
    cases h744 : decide (a1 < r586) with
    | true =>
      refine q_RP_cT ?_
      refine q_RP_bd fun r587 er587 => ?_
      refine q_RP_call (v := (some (.int r587))) (h2 := (q_kX s c n)) rfl rfl ?_ ?_
      · refine q_Ca_of (Nat.le_of_ble_eq_true rfl) ?_
        refine q_Ru_seg (g2 := (5, [(0, .ref 64), (1, .int a1)], [.ref 135, .int a1], (q_kX s c n))) 3 (fun _ _ => rfl) ?_
        refine q_Ru_call (v := (some (.int r586))) (h2 := (q_kX s c n)) rfl rfl ?_ ?_
        · exact (q_emBXp rfl (fun _ => rfl) (q_cE (φ := (q_oP (q_kB (q_vw 2 71 0 s) c n))) er586 (dzt_B329_64 z L xs (q_vw 2 71 0 s) c n))).le (Nat.le_of_ble_eq_true rfl)
        show q_Ru _ _ _ (8, [(0, .ref 64), (1, .int a1)], [.int r586, .int a1], (q_kX s c n)) _
        refine q_Ru_call (v := none) (h2 := (q_kX s c n)) rfl rfl ?_ ?_
        · refine q_Ca_of (Nat.le_of_ble_eq_true rfl) ?_
          refine q_Ru_seg (g2 := (1, [(0, .int a1), (1, .int r586)], [.int a1], (q_kX s c n))) 1 (fun _ _ => rfl) ?_
          refine q_Ru_rsF (g2 := (4, [(0, .int a1), (1, .int r586)], [], (q_kX s c n))) rfl rfl h743 ?_
          refine q_Ru_seg (g2 := (6, [(0, .int a1), (1, .int r586)], [.int r586, .int a1], (q_kX s c n))) 2 (fun _ _ => rfl) ?_
          refine q_Ru_rsT (g2 := (19, [(0, .int a1), (1, .int r586)], [], (q_kX s c n))) rfl rfl h744 ?_
          exact q_Ru_ret rfl rfl
        show q_Ru _ _ _ (11, [(0, .ref 64), (1, .int a1)], [], (q_kX s c n)) _
        refine q_Ru_seg (g2 := (16, [(0, .ref 64), (1, .int a1)], [.int a1, .ref 135], (q_kX s c n))) 3 (fun _ _ => rfl) ?_
        refine q_Ru_call (v := (some (.int r587))) (h2 := (q_kX s c n)) rfl rfl ?_ ?_
        · exact (q_emBXp rfl (fun _ => rfl) (dzt_B327_64 z L xs (q_vw 2 71 0 s) c n a1 r587 er587)).le (Nat.le_of_ble_eq_true rfl)
        show q_Ru _ _ _ (19, [(0, .ref 64), (1, .int a1)], [.int r587], (q_kX s c n)) _
        exact q_Ru_ret rfl rfl
      show q_RP _ _ _ (7, [(0, .ref 64), (1, .int a1), (2, .ref 236)], [.int r587, .int 0, .ref 236], (q_kX s c n)) _ _
      refine q_RP_seg (g2 := (8, [(0, .ref 64), (1, .int a1), (2, .ref 236)], [.long r587.toInt64, .int 0, .ref 236], (q_kX s c n))) 1 (fun _ _ => rfl) ?_
      refine q_RP_rsT (g2 := (9, [(0, .ref 64), (1, .int a1), (2, .ref 236)], [], (q_kX (q_sL s 172 (vp_updL (s.2.2 172) 0 r587.toInt64)) c n))) rfl q_wX172 rfl ?_
      refine q_RP_seg (g2 := (16, [(0, .ref 64), (1, .int a1), (2, .ref 236)], [.int 0], (q_kX (q_sL s 172 (vp_updL (s.2.2 172) 0 r587.toInt64)) c n))) 2 (fun _ _ => rfl) ?_
      exact q_RP_ret rfl rfl rfl
    | false =>
      refine q_RP_cF ?_
      refine q_RP_callH (E := "java/lang/IndexOutOfBoundsException") (tg := 13) (i := 3) (h2 := (q_kX s (c + 1) (n + 6))) rfl rfl ?_ rfl ?_
      · refine q_Ca_of (Nat.le_of_ble_eq_true rfl) ?_
        refine q_Ru_seg (g2 := (5, [(0, .ref 64), (1, .int a1)], [.ref 135, .int a1], (q_kX s c n))) 3 (fun _ _ => rfl) ?_
        refine q_Ru_call (v := (some (.int r586))) (h2 := (q_kX s c n)) rfl rfl ?_ ?_
        · exact (q_emBXp rfl (fun _ => rfl) (q_cE (φ := (q_oP (q_kB (q_vw 2 71 0 s) c n))) er586 (dzt_B329_64 z L xs (q_vw 2 71 0 s) c n))).le (Nat.le_of_ble_eq_true rfl)
        show q_Ru _ _ _ (8, [(0, .ref 64), (1, .int a1)], [.int r586, .int a1], (q_kX s c n)) _
        refine q_Ru_callX (E := "java/lang/IndexOutOfBoundsException") (h2 := (q_kX s (c + 1) (n + 6))) rfl rfl ?_
        refine q_Ca_of (Nat.le_of_ble_eq_true rfl) ?_
        refine q_Ru_seg (g2 := (1, [(0, .int a1), (1, .int r586)], [.int a1], (q_kX s c n))) 1 (fun _ _ => rfl) ?_
        refine q_Ru_rsF (g2 := (4, [(0, .int a1), (1, .int r586)], [], (q_kX s c n))) rfl rfl h743 ?_
        refine q_Ru_seg (g2 := (6, [(0, .int a1), (1, .int r586)], [.int r586, .int a1], (q_kX s c n))) 2 (fun _ _ => rfl) ?_
        refine q_Ru_rsF (g2 := (9, [(0, .int a1), (1, .int r586)], [], (q_kX s c n))) rfl rfl h744 ?_
        exact q_Ru_thr rfl rfl
      show q_RP _ _ _ (13, [(0, .ref 64), (1, .int a1), (2, .ref 236)], [], (q_kX s (c + 1) (n + 6))) _ _
      refine q_RP_seg (g2 := (14, [(0, .ref 64), (1, .int a1), (2, .ref 236)], [.int 1], (q_kX s (c + 1) (n + 6)))) 1 (fun _ _ => rfl) ?_
      exact q_RP_ret rfl rfl rfl
def dz_X36_22 (m : Nat) : q_S → Int32 → Int32 → Int32 → Int32 → Int32 → Option (Int32) := Nat.rec (motive := fun _ => q_S → Int32 → Int32 → Int32 → Int32 → Int32 → Option (Int32)) (fun _ _ _ _ _ _ => none) (fun _ k22 s v1 v2 v3 v4 v5 =>
  cond (decide (v5 < v3)) ((dz_N90_65 (q_vw 32 1 73 s) ((v1 + v5) &&& 4095)).bind fun r588 => (dz_N90_65 (q_vw 32 1 73 s) ((v2 + v5) &&& 4095)).bind fun r589 => cond (decide (r588 = r589)) (k22 s v1 v2 v3 v4 (v5 + 1)) (k22 s v1 v2 v3 (v4 + 1) (v5 + 1))) (some v4)) m
theorem dzs_X36_22 (m : Nat) (s : q_S) (v1 : Int32) (v2 : Int32) (v3 : Int32) (v4 : Int32) (v5 : Int32) : dz_X36_22 (m + 1) s v1 v2 v3 v4 v5 = (fun k22 : q_S → Int32 → Int32 → Int32 → Int32 → Int32 → Option (Int32) =>
  cond (decide (v5 < v3)) ((dz_N90_65 (q_vw 32 1 73 s) ((v1 + v5) &&& 4095)).bind fun r588 => (dz_N90_65 (q_vw 32 1 73 s) ((v2 + v5) &&& 4095)).bind fun r589 => cond (decide (r588 = r589)) (k22 s v1 v2 v3 v4 (v5 + 1)) (k22 s v1 v2 v3 (v4 + 1) (v5 + 1))) (some v4)) (dz_X36_22 m) := rfl
set_option maxHeartbeats 4000000 in
theorem dzt_X36_22 (z L : Nat) (xs : Nat → Int32) (c n : Nat) (s : q_S) : ∀ (m : Nat) (v1 : Int32) (v2 : Int32) (v3 : Int32) (v4 : Int32) (v5 : Int32), q_RP (q_TBs z L xs) 2 36 (22, [(0, .ref 64), (1, .int v1), (2, .int v2), (3, .int v3), (4, .int v4), (5, .int v5)], [], (q_kX s c n)) (q_oP (q_kX s c n)) (dz_X36_22 m s v1 v2 v3 v4 v5) := by
  intro m
  induction m with
  | zero => intro v1 v2 v3 v4 v5; exact q_RP_no
  | succ m ih =>
    intro v1 v2 v3 v4 v5
    have hk22 := ih
    clear ih
    rw [dzs_X36_22]
    generalize dz_X36_22 m = k22 at hk22 ⊢
    dsimp only
    refine q_RP_seg (g2 := (25, [(0, .ref 64), (1, .int v1), (2, .int v2), (3, .int v3), (4, .int v4), (5, .int v5)], [.int v3, .int v5], (q_kX s c n))) 2 (fun _ _ => rfl) ?_
    cases h757 : decide (v5 < v3) with
    | true =>
      refine q_RP_cT ?_
      refine q_RP_rsF (g2 := (28, [(0, .ref 64), (1, .int v1), (2, .int v2), (3, .int v3), (4, .int v4), (5, .int v5)], [], (q_kX s c n))) rfl rfl (q_d_geT h757) ?_
      refine q_RP_seg (g2 := (43, [(0, .ref 64), (1, .int v1), (2, .int v2), (3, .int v3), (4, .int v4), (5, .int v5)], [.int ((v1 + v5) &&& 4095), .ref 66], (q_kX s c n))) 8 (fun _ _ => rfl) ?_
      refine q_RP_bd fun r588 er588 => ?_
      refine q_RP_call (v := (some (.int r588))) (h2 := (q_kX s c n)) rfl rfl ((q_emNX_1p rfl (fun _ => rfl) ((dzt_N90_65 (q_vw 32 1 73 s) c n ((v1 + v5) &&& 4095) r588 er588).tb q_TB0_le)).le (Nat.le_of_ble_eq_true rfl)) ?_
      show q_RP _ _ _ (46, [(0, .ref 64), (1, .int v1), (2, .int v2), (3, .int v3), (4, .int v4), (5, .int v5)], [.int r588], (q_kX s c n)) _ _
      refine q_RP_seg (g2 := (65, [(6, .int r588), (0, .ref 64), (1, .int v1), (2, .int v2), (3, .int v3), (4, .int v4), (5, .int v5)], [.int ((v2 + v5) &&& 4095), .ref 66, .int r588], (q_kX s c n))) 10 (fun _ _ => rfl) ?_
      refine q_RP_bd fun r589 er589 => ?_
      refine q_RP_call (v := (some (.int r589))) (h2 := (q_kX s c n)) rfl rfl ((q_emNX_1p rfl (fun _ => rfl) ((dzt_N90_65 (q_vw 32 1 73 s) c n ((v2 + v5) &&& 4095) r589 er589).tb q_TB0_le)).le (Nat.le_of_ble_eq_true rfl)) ?_
      show q_RP _ _ _ (68, [(6, .int r588), (0, .ref 64), (1, .int v1), (2, .int v2), (3, .int v3), (4, .int v4), (5, .int v5)], [.int r589, .int r588], (q_kX s c n)) _ _
      cases h758 : decide (r588 = r589) with
      | true =>
        refine q_RP_cT ?_
        refine q_RP_rsT (g2 := (74, [(6, .int r588), (0, .ref 64), (1, .int v1), (2, .int v2), (3, .int v3), (4, .int v4), (5, .int v5)], [], (q_kX s c n))) rfl rfl h758 ?_
        refine q_RP_seg (g2 := (22, [(5, .int (v5 + 1)), (6, .int r588), (0, .ref 64), (1, .int v1), (2, .int v2), (3, .int v3), (4, .int v4)], [], (q_kX s c n))) 2 (fun _ _ => rfl) ?_
        exact q_RP_xt (q_xt_mk (q_mn1 2 rfl (q_mn1 3 rfl (q_mn1 4 rfl (q_mn1 5 rfl (q_mn1 6 rfl (q_mn1 0 rfl q_mn0)))))) rfl) (hk22 v1 v2 v3 v4 (v5 + 1))
      | false =>
        refine q_RP_cF ?_
        refine q_RP_rsF (g2 := (71, [(6, .int r588), (0, .ref 64), (1, .int v1), (2, .int v2), (3, .int v3), (4, .int v4), (5, .int v5)], [], (q_kX s c n))) rfl rfl h758 ?_
        refine q_RP_seg (g2 := (22, [(5, .int (v5 + 1)), (4, .int (v4 + 1)), (6, .int r588), (0, .ref 64), (1, .int v1), (2, .int v2), (3, .int v3)], [], (q_kX s c n))) 3 (fun _ _ => rfl) ?_
        exact q_RP_xt (q_xt_mk (q_mn1 3 rfl (q_mn1 4 rfl (q_mn1 5 rfl (q_mn1 6 rfl (q_mn1 1 rfl (q_mn1 0 rfl q_mn0)))))) rfl) (hk22 v1 v2 v3 (v4 + 1) (v5 + 1))
    | false =>
      refine q_RP_cF ?_
      refine q_RP_rsT (g2 := (80, [(0, .ref 64), (1, .int v1), (2, .int v2), (3, .int v3), (4, .int v4), (5, .int v5)], [], (q_kX s c n))) rfl rfl (q_d_geF h757) ?_
      refine q_RP_seg (g2 := (82, [(0, .ref 64), (1, .int v1), (2, .int v2), (3, .int v3), (4, .int v4), (5, .int v5)], [.int v4], (q_kX s c n))) 1 (fun _ _ => rfl) ?_
      exact q_RP_ret rfl rfl rfl
def dz_X8_64_236 (s : q_S) (a1 : Int32) (a2 : Int32) (a3 : Int32) : Option (q_S × Int32 × Nat) :=
  cond (decide (a1 < 0)) (some (s, 1, 1)) (cond (decide (a1 < 4096)) (cond (decide (a2 < 0)) (some (s, 1, 1)) (cond (decide (a2 < 4096)) (cond (decide (a3 < 1)) (some (s, 2, 1)) (cond (decide (4096 < a3)) (some (s, 2, 1)) ((dz_X36_22 5000 s a1 a2 a3 0 0).bind fun r590 => some ((q_sL s 172 (vp_updL (s.2.2 172) 0 r590.toInt64)), 0, 0)))) (some (s, 1, 1)))) (some (s, 1, 1)))
set_option maxHeartbeats 4000000 in
theorem dzt_X8_64_236 (z L : Nat) (xs : Nat → Int32) (s : q_S) (c n : Nat) (a1 : Int32) (a2 : Int32) (a3 : Int32) (x : q_S × Int32 × Nat) (h : dz_X8_64_236 s a1 a2 a3 = some x) : q_Ca (q_TBs z L xs) 6 8 [.ref 64, .int a1, .int a2, .int a3, .ref 236] (q_kX s c n) ((q_oEX c n) x) := by
  refine q_CaP_of (φ := (q_oEX c n)) (Nat.le_of_ble_eq_true rfl) ?_ h
  clear h
  unfold dz_X8_64_236
  refine q_RP_seg (g2 := (7, [(0, .ref 64), (1, .int a1), (2, .int a2), (3, .int a3), (4, .ref 236)], [.int a3, .int a2, .int a1, .ref 64, .int 0, .ref 236], (q_kX s c n))) 6 (fun _ _ => rfl) ?_
  cases h751 : decide (a1 < 0) with
  | true =>
    refine q_RP_cT ?_
    refine q_RP_callH (E := "java/lang/IndexOutOfBoundsException") (tg := 17) (i := 5) (h2 := (q_kX s (c + 1) (n + 6))) rfl rfl ?_ rfl ?_
    · refine q_Ca_of (Nat.le_of_ble_eq_true rfl) ?_
      refine q_Ru_seg (g2 := (1, [(0, .ref 64), (1, .int a1), (2, .int a2), (3, .int a3)], [.int a1], (q_kX s c n))) 1 (fun _ _ => rfl) ?_
      refine q_Ru_callX (E := "java/lang/IndexOutOfBoundsException") (h2 := (q_kX s (c + 1) (n + 6))) rfl rfl ?_
      refine q_Ca_of (Nat.le_of_ble_eq_true rfl) ?_
      refine q_Ru_seg (g2 := (4, [(0, .int a1)], [.int 4096, .int a1], (q_kX s c n))) 2 (fun _ _ => rfl) ?_
      refine q_Ru_callX (E := "java/lang/IndexOutOfBoundsException") (h2 := (q_kX s (c + 1) (n + 6))) rfl rfl ?_
      refine q_Ca_of (Nat.le_of_ble_eq_true rfl) ?_
      refine q_Ru_seg (g2 := (1, [(0, .int a1), (1, .int 4096)], [.int a1], (q_kX s c n))) 1 (fun _ _ => rfl) ?_
      refine q_Ru_rsT (g2 := (9, [(0, .int a1), (1, .int 4096)], [], (q_kX s c n))) rfl rfl h751 ?_
      exact q_Ru_thr rfl rfl
    show q_RP _ _ _ (17, [(0, .ref 64), (1, .int a1), (2, .int a2), (3, .int a3), (4, .ref 236)], [], (q_kX s (c + 1) (n + 6))) _ _
    refine q_RP_seg (g2 := (18, [(0, .ref 64), (1, .int a1), (2, .int a2), (3, .int a3), (4, .ref 236)], [.int 1], (q_kX s (c + 1) (n + 6)))) 1 (fun _ _ => rfl) ?_
    exact q_RP_ret rfl rfl rfl
  | false =>
    refine q_RP_cF ?_
    cases h752 : decide (a1 < 4096) with
    | true =>
      refine q_RP_cT ?_
      cases h753 : decide (a2 < 0) with
      | true =>
        refine q_RP_cT ?_
        refine q_RP_callH (E := "java/lang/IndexOutOfBoundsException") (tg := 17) (i := 5) (h2 := (q_kX s (c + 1) (n + 6))) rfl rfl ?_ rfl ?_
        · refine q_Ca_of (Nat.le_of_ble_eq_true rfl) ?_
          refine q_Ru_seg (g2 := (1, [(0, .ref 64), (1, .int a1), (2, .int a2), (3, .int a3)], [.int a1], (q_kX s c n))) 1 (fun _ _ => rfl) ?_
          refine q_Ru_call (v := none) (h2 := (q_kX s c n)) rfl rfl ?_ ?_
          · refine q_Ca_of (Nat.le_of_ble_eq_true rfl) ?_
            refine q_Ru_seg (g2 := (4, [(0, .int a1)], [.int 4096, .int a1], (q_kX s c n))) 2 (fun _ _ => rfl) ?_
            refine q_Ru_call (v := none) (h2 := (q_kX s c n)) rfl rfl ?_ ?_
            · refine q_Ca_of (Nat.le_of_ble_eq_true rfl) ?_
              refine q_Ru_seg (g2 := (1, [(0, .int a1), (1, .int 4096)], [.int a1], (q_kX s c n))) 1 (fun _ _ => rfl) ?_
              refine q_Ru_rsF (g2 := (4, [(0, .int a1), (1, .int 4096)], [], (q_kX s c n))) rfl rfl h751 ?_
              refine q_Ru_seg (g2 := (6, [(0, .int a1), (1, .int 4096)], [.int 4096, .int a1], (q_kX s c n))) 2 (fun _ _ => rfl) ?_
              refine q_Ru_rsT (g2 := (19, [(0, .int a1), (1, .int 4096)], [], (q_kX s c n))) rfl rfl h752 ?_
              exact q_Ru_ret rfl rfl
            show q_Ru _ _ _ (7, [(0, .int a1)], [], (q_kX s c n)) _
            exact q_Ru_ret rfl rfl
          show q_Ru _ _ _ (4, [(0, .ref 64), (1, .int a1), (2, .int a2), (3, .int a3)], [], (q_kX s c n)) _
          refine q_Ru_seg (g2 := (5, [(0, .ref 64), (1, .int a1), (2, .int a2), (3, .int a3)], [.int a2], (q_kX s c n))) 1 (fun _ _ => rfl) ?_
          refine q_Ru_callX (E := "java/lang/IndexOutOfBoundsException") (h2 := (q_kX s (c + 1) (n + 6))) rfl rfl ?_
          refine q_Ca_of (Nat.le_of_ble_eq_true rfl) ?_
          refine q_Ru_seg (g2 := (4, [(0, .int a2)], [.int 4096, .int a2], (q_kX s c n))) 2 (fun _ _ => rfl) ?_
          refine q_Ru_callX (E := "java/lang/IndexOutOfBoundsException") (h2 := (q_kX s (c + 1) (n + 6))) rfl rfl ?_
          refine q_Ca_of (Nat.le_of_ble_eq_true rfl) ?_
          refine q_Ru_seg (g2 := (1, [(0, .int a2), (1, .int 4096)], [.int a2], (q_kX s c n))) 1 (fun _ _ => rfl) ?_
          refine q_Ru_rsT (g2 := (9, [(0, .int a2), (1, .int 4096)], [], (q_kX s c n))) rfl rfl h753 ?_
          exact q_Ru_thr rfl rfl
        show q_RP _ _ _ (17, [(0, .ref 64), (1, .int a1), (2, .int a2), (3, .int a3), (4, .ref 236)], [], (q_kX s (c + 1) (n + 6))) _ _
        refine q_RP_seg (g2 := (18, [(0, .ref 64), (1, .int a1), (2, .int a2), (3, .int a3), (4, .ref 236)], [.int 1], (q_kX s (c + 1) (n + 6)))) 1 (fun _ _ => rfl) ?_
        exact q_RP_ret rfl rfl rfl
      | false =>
        refine q_RP_cF ?_
        cases h754 : decide (a2 < 4096) with
        | true =>
          refine q_RP_cT ?_
          cases h755 : decide (a3 < 1) with
          | true =>
            refine q_RP_cT ?_
            refine q_RP_callH (E := "java/lang/IllegalArgumentException") (tg := 21) (i := 5) (h2 := (q_kX s (c + 1) (n + 6))) rfl rfl ?_ rfl ?_
            · refine q_Ca_of (Nat.le_of_ble_eq_true rfl) ?_
              refine q_Ru_seg (g2 := (1, [(0, .ref 64), (1, .int a1), (2, .int a2), (3, .int a3)], [.int a1], (q_kX s c n))) 1 (fun _ _ => rfl) ?_
              refine q_Ru_call (v := none) (h2 := (q_kX s c n)) rfl rfl ?_ ?_
              · refine q_Ca_of (Nat.le_of_ble_eq_true rfl) ?_
                refine q_Ru_seg (g2 := (4, [(0, .int a1)], [.int 4096, .int a1], (q_kX s c n))) 2 (fun _ _ => rfl) ?_
                refine q_Ru_call (v := none) (h2 := (q_kX s c n)) rfl rfl ?_ ?_
                · refine q_Ca_of (Nat.le_of_ble_eq_true rfl) ?_
                  refine q_Ru_seg (g2 := (1, [(0, .int a1), (1, .int 4096)], [.int a1], (q_kX s c n))) 1 (fun _ _ => rfl) ?_
                  refine q_Ru_rsF (g2 := (4, [(0, .int a1), (1, .int 4096)], [], (q_kX s c n))) rfl rfl h751 ?_
                  refine q_Ru_seg (g2 := (6, [(0, .int a1), (1, .int 4096)], [.int 4096, .int a1], (q_kX s c n))) 2 (fun _ _ => rfl) ?_
                  refine q_Ru_rsT (g2 := (19, [(0, .int a1), (1, .int 4096)], [], (q_kX s c n))) rfl rfl h752 ?_
                  exact q_Ru_ret rfl rfl
                show q_Ru _ _ _ (7, [(0, .int a1)], [], (q_kX s c n)) _
                exact q_Ru_ret rfl rfl
              show q_Ru _ _ _ (4, [(0, .ref 64), (1, .int a1), (2, .int a2), (3, .int a3)], [], (q_kX s c n)) _
              refine q_Ru_seg (g2 := (5, [(0, .ref 64), (1, .int a1), (2, .int a2), (3, .int a3)], [.int a2], (q_kX s c n))) 1 (fun _ _ => rfl) ?_
              refine q_Ru_call (v := none) (h2 := (q_kX s c n)) rfl rfl ?_ ?_
              · refine q_Ca_of (Nat.le_of_ble_eq_true rfl) ?_
                refine q_Ru_seg (g2 := (4, [(0, .int a2)], [.int 4096, .int a2], (q_kX s c n))) 2 (fun _ _ => rfl) ?_
                refine q_Ru_call (v := none) (h2 := (q_kX s c n)) rfl rfl ?_ ?_
                · refine q_Ca_of (Nat.le_of_ble_eq_true rfl) ?_
                  refine q_Ru_seg (g2 := (1, [(0, .int a2), (1, .int 4096)], [.int a2], (q_kX s c n))) 1 (fun _ _ => rfl) ?_
                  refine q_Ru_rsF (g2 := (4, [(0, .int a2), (1, .int 4096)], [], (q_kX s c n))) rfl rfl h753 ?_
                  refine q_Ru_seg (g2 := (6, [(0, .int a2), (1, .int 4096)], [.int 4096, .int a2], (q_kX s c n))) 2 (fun _ _ => rfl) ?_
                  refine q_Ru_rsT (g2 := (19, [(0, .int a2), (1, .int 4096)], [], (q_kX s c n))) rfl rfl h754 ?_
                  exact q_Ru_ret rfl rfl
                show q_Ru _ _ _ (7, [(0, .int a2)], [], (q_kX s c n)) _
                exact q_Ru_ret rfl rfl
              show q_Ru _ _ _ (8, [(0, .ref 64), (1, .int a1), (2, .int a2), (3, .int a3)], [], (q_kX s c n)) _
              refine q_Ru_seg (g2 := (13, [(0, .ref 64), (1, .int a1), (2, .int a2), (3, .int a3)], [.int 4096, .int 1, .int a3], (q_kX s c n))) 3 (fun _ _ => rfl) ?_
              refine q_Ru_callX (E := "java/lang/IllegalArgumentException") (h2 := (q_kX s (c + 1) (n + 6))) rfl rfl ?_
              refine q_Ca_of (Nat.le_of_ble_eq_true rfl) ?_
              refine q_Ru_seg (g2 := (2, [(0, .int a3), (1, .int 1), (2, .int 4096)], [.int 1, .int a3], (q_kX s c n))) 2 (fun _ _ => rfl) ?_
              refine q_Ru_rsT (g2 := (10, [(0, .int a3), (1, .int 1), (2, .int 4096)], [], (q_kX s c n))) rfl rfl h755 ?_
              exact q_Ru_thr rfl rfl
            show q_RP _ _ _ (21, [(0, .ref 64), (1, .int a1), (2, .int a2), (3, .int a3), (4, .ref 236)], [], (q_kX s (c + 1) (n + 6))) _ _
            refine q_RP_seg (g2 := (22, [(0, .ref 64), (1, .int a1), (2, .int a2), (3, .int a3), (4, .ref 236)], [.int 2], (q_kX s (c + 1) (n + 6)))) 1 (fun _ _ => rfl) ?_
            exact q_RP_ret rfl rfl rfl
          | false =>
            refine q_RP_cF ?_
            cases h756 : decide (4096 < a3) with
            | true =>
              refine q_RP_cT ?_
              refine q_RP_callH (E := "java/lang/IllegalArgumentException") (tg := 21) (i := 5) (h2 := (q_kX s (c + 1) (n + 6))) rfl rfl ?_ rfl ?_
              · refine q_Ca_of (Nat.le_of_ble_eq_true rfl) ?_
                refine q_Ru_seg (g2 := (1, [(0, .ref 64), (1, .int a1), (2, .int a2), (3, .int a3)], [.int a1], (q_kX s c n))) 1 (fun _ _ => rfl) ?_
                refine q_Ru_call (v := none) (h2 := (q_kX s c n)) rfl rfl ?_ ?_
                · refine q_Ca_of (Nat.le_of_ble_eq_true rfl) ?_
                  refine q_Ru_seg (g2 := (4, [(0, .int a1)], [.int 4096, .int a1], (q_kX s c n))) 2 (fun _ _ => rfl) ?_
                  refine q_Ru_call (v := none) (h2 := (q_kX s c n)) rfl rfl ?_ ?_
                  · refine q_Ca_of (Nat.le_of_ble_eq_true rfl) ?_
                    refine q_Ru_seg (g2 := (1, [(0, .int a1), (1, .int 4096)], [.int a1], (q_kX s c n))) 1 (fun _ _ => rfl) ?_
                    refine q_Ru_rsF (g2 := (4, [(0, .int a1), (1, .int 4096)], [], (q_kX s c n))) rfl rfl h751 ?_
                    refine q_Ru_seg (g2 := (6, [(0, .int a1), (1, .int 4096)], [.int 4096, .int a1], (q_kX s c n))) 2 (fun _ _ => rfl) ?_
                    refine q_Ru_rsT (g2 := (19, [(0, .int a1), (1, .int 4096)], [], (q_kX s c n))) rfl rfl h752 ?_
                    exact q_Ru_ret rfl rfl
                  show q_Ru _ _ _ (7, [(0, .int a1)], [], (q_kX s c n)) _
                  exact q_Ru_ret rfl rfl
                show q_Ru _ _ _ (4, [(0, .ref 64), (1, .int a1), (2, .int a2), (3, .int a3)], [], (q_kX s c n)) _
                refine q_Ru_seg (g2 := (5, [(0, .ref 64), (1, .int a1), (2, .int a2), (3, .int a3)], [.int a2], (q_kX s c n))) 1 (fun _ _ => rfl) ?_
                refine q_Ru_call (v := none) (h2 := (q_kX s c n)) rfl rfl ?_ ?_
                · refine q_Ca_of (Nat.le_of_ble_eq_true rfl) ?_
                  refine q_Ru_seg (g2 := (4, [(0, .int a2)], [.int 4096, .int a2], (q_kX s c n))) 2 (fun _ _ => rfl) ?_
                  refine q_Ru_call (v := none) (h2 := (q_kX s c n)) rfl rfl ?_ ?_
                  · refine q_Ca_of (Nat.le_of_ble_eq_true rfl) ?_
                    refine q_Ru_seg (g2 := (1, [(0, .int a2), (1, .int 4096)], [.int a2], (q_kX s c n))) 1 (fun _ _ => rfl) ?_
                    refine q_Ru_rsF (g2 := (4, [(0, .int a2), (1, .int 4096)], [], (q_kX s c n))) rfl rfl h753 ?_
                    refine q_Ru_seg (g2 := (6, [(0, .int a2), (1, .int 4096)], [.int 4096, .int a2], (q_kX s c n))) 2 (fun _ _ => rfl) ?_
                    refine q_Ru_rsT (g2 := (19, [(0, .int a2), (1, .int 4096)], [], (q_kX s c n))) rfl rfl h754 ?_
                    exact q_Ru_ret rfl rfl
                  show q_Ru _ _ _ (7, [(0, .int a2)], [], (q_kX s c n)) _
                  exact q_Ru_ret rfl rfl
                show q_Ru _ _ _ (8, [(0, .ref 64), (1, .int a1), (2, .int a2), (3, .int a3)], [], (q_kX s c n)) _
                refine q_Ru_seg (g2 := (13, [(0, .ref 64), (1, .int a1), (2, .int a2), (3, .int a3)], [.int 4096, .int 1, .int a3], (q_kX s c n))) 3 (fun _ _ => rfl) ?_
                refine q_Ru_callX (E := "java/lang/IllegalArgumentException") (h2 := (q_kX s (c + 1) (n + 6))) rfl rfl ?_
                refine q_Ca_of (Nat.le_of_ble_eq_true rfl) ?_
                refine q_Ru_seg (g2 := (2, [(0, .int a3), (1, .int 1), (2, .int 4096)], [.int 1, .int a3], (q_kX s c n))) 2 (fun _ _ => rfl) ?_
                refine q_Ru_rsF (g2 := (5, [(0, .int a3), (1, .int 1), (2, .int 4096)], [], (q_kX s c n))) rfl rfl h755 ?_
                refine q_Ru_seg (g2 := (7, [(0, .int a3), (1, .int 1), (2, .int 4096)], [.int 4096, .int a3], (q_kX s c n))) 2 (fun _ _ => rfl) ?_
                refine q_Ru_rsF (g2 := (10, [(0, .int a3), (1, .int 1), (2, .int 4096)], [], (q_kX s c n))) rfl rfl (q_d_geT h756) ?_
                exact q_Ru_thr rfl rfl
              show q_RP _ _ _ (21, [(0, .ref 64), (1, .int a1), (2, .int a2), (3, .int a3), (4, .ref 236)], [], (q_kX s (c + 1) (n + 6))) _ _
              refine q_RP_seg (g2 := (22, [(0, .ref 64), (1, .int a1), (2, .int a2), (3, .int a3), (4, .ref 236)], [.int 2], (q_kX s (c + 1) (n + 6)))) 1 (fun _ _ => rfl) ?_
              exact q_RP_ret rfl rfl rfl
            | false =>
              refine q_RP_cF ?_
              refine q_RP_bd fun r590 er590 => ?_
              refine q_RP_call (v := (some (.int r590))) (h2 := (q_kX s c n)) rfl rfl ?_ ?_
              · refine q_Ca_of (Nat.le_of_ble_eq_true rfl) ?_
                refine q_Ru_seg (g2 := (1, [(0, .ref 64), (1, .int a1), (2, .int a2), (3, .int a3)], [.int a1], (q_kX s c n))) 1 (fun _ _ => rfl) ?_
                refine q_Ru_call (v := none) (h2 := (q_kX s c n)) rfl rfl ?_ ?_
                · refine q_Ca_of (Nat.le_of_ble_eq_true rfl) ?_
                  refine q_Ru_seg (g2 := (4, [(0, .int a1)], [.int 4096, .int a1], (q_kX s c n))) 2 (fun _ _ => rfl) ?_
                  refine q_Ru_call (v := none) (h2 := (q_kX s c n)) rfl rfl ?_ ?_
                  · refine q_Ca_of (Nat.le_of_ble_eq_true rfl) ?_
                    refine q_Ru_seg (g2 := (1, [(0, .int a1), (1, .int 4096)], [.int a1], (q_kX s c n))) 1 (fun _ _ => rfl) ?_
                    refine q_Ru_rsF (g2 := (4, [(0, .int a1), (1, .int 4096)], [], (q_kX s c n))) rfl rfl h751 ?_
                    refine q_Ru_seg (g2 := (6, [(0, .int a1), (1, .int 4096)], [.int 4096, .int a1], (q_kX s c n))) 2 (fun _ _ => rfl) ?_
                    refine q_Ru_rsT (g2 := (19, [(0, .int a1), (1, .int 4096)], [], (q_kX s c n))) rfl rfl h752 ?_
                    exact q_Ru_ret rfl rfl
                  show q_Ru _ _ _ (7, [(0, .int a1)], [], (q_kX s c n)) _
                  exact q_Ru_ret rfl rfl
                show q_Ru _ _ _ (4, [(0, .ref 64), (1, .int a1), (2, .int a2), (3, .int a3)], [], (q_kX s c n)) _
                refine q_Ru_seg (g2 := (5, [(0, .ref 64), (1, .int a1), (2, .int a2), (3, .int a3)], [.int a2], (q_kX s c n))) 1 (fun _ _ => rfl) ?_
                refine q_Ru_call (v := none) (h2 := (q_kX s c n)) rfl rfl ?_ ?_
                · refine q_Ca_of (Nat.le_of_ble_eq_true rfl) ?_
                  refine q_Ru_seg (g2 := (4, [(0, .int a2)], [.int 4096, .int a2], (q_kX s c n))) 2 (fun _ _ => rfl) ?_
                  refine q_Ru_call (v := none) (h2 := (q_kX s c n)) rfl rfl ?_ ?_
                  · refine q_Ca_of (Nat.le_of_ble_eq_true rfl) ?_
                    refine q_Ru_seg (g2 := (1, [(0, .int a2), (1, .int 4096)], [.int a2], (q_kX s c n))) 1 (fun _ _ => rfl) ?_
                    refine q_Ru_rsF (g2 := (4, [(0, .int a2), (1, .int 4096)], [], (q_kX s c n))) rfl rfl h753 ?_
                    refine q_Ru_seg (g2 := (6, [(0, .int a2), (1, .int 4096)], [.int 4096, .int a2], (q_kX s c n))) 2 (fun _ _ => rfl) ?_
                    refine q_Ru_rsT (g2 := (19, [(0, .int a2), (1, .int 4096)], [], (q_kX s c n))) rfl rfl h754 ?_
                    exact q_Ru_ret rfl rfl
                  show q_Ru _ _ _ (7, [(0, .int a2)], [], (q_kX s c n)) _
                  exact q_Ru_ret rfl rfl
                show q_Ru _ _ _ (8, [(0, .ref 64), (1, .int a1), (2, .int a2), (3, .int a3)], [], (q_kX s c n)) _
                refine q_Ru_seg (g2 := (13, [(0, .ref 64), (1, .int a1), (2, .int a2), (3, .int a3)], [.int 4096, .int 1, .int a3], (q_kX s c n))) 3 (fun _ _ => rfl) ?_
                refine q_Ru_call (v := none) (h2 := (q_kX s c n)) rfl rfl ?_ ?_
                · refine q_Ca_of (Nat.le_of_ble_eq_true rfl) ?_
                  refine q_Ru_seg (g2 := (2, [(0, .int a3), (1, .int 1), (2, .int 4096)], [.int 1, .int a3], (q_kX s c n))) 2 (fun _ _ => rfl) ?_
                  refine q_Ru_rsF (g2 := (5, [(0, .int a3), (1, .int 1), (2, .int 4096)], [], (q_kX s c n))) rfl rfl h755 ?_
                  refine q_Ru_seg (g2 := (7, [(0, .int a3), (1, .int 1), (2, .int 4096)], [.int 4096, .int a3], (q_kX s c n))) 2 (fun _ _ => rfl) ?_
                  refine q_Ru_rsT (g2 := (20, [(0, .int a3), (1, .int 1), (2, .int 4096)], [], (q_kX s c n))) rfl rfl (q_d_geF h756) ?_
                  exact q_Ru_ret rfl rfl
                show q_Ru _ _ _ (16, [(0, .ref 64), (1, .int a1), (2, .int a2), (3, .int a3)], [], (q_kX s c n)) _
                exact q_Ru_xt (q_xt_mk (q_mn1 2 rfl (q_mn1 3 rfl (q_mn1 4 rfl (q_mn1 5 rfl (q_mn1 1 rfl (q_mn1 0 rfl q_mn0)))))) rfl) (q_Ru_le (Nat.le_of_ble_eq_true rfl) (dzt_X36_22 z L xs c n s 5000 a1 a2 a3 0 0 r590 er590))
              show q_RP _ _ _ (10, [(0, .ref 64), (1, .int a1), (2, .int a2), (3, .int a3), (4, .ref 236)], [.int r590, .int 0, .ref 236], (q_kX s c n)) _ _
              refine q_RP_seg (g2 := (11, [(0, .ref 64), (1, .int a1), (2, .int a2), (3, .int a3), (4, .ref 236)], [.long r590.toInt64, .int 0, .ref 236], (q_kX s c n))) 1 (fun _ _ => rfl) ?_
              refine q_RP_rsT (g2 := (12, [(0, .ref 64), (1, .int a1), (2, .int a2), (3, .int a3), (4, .ref 236)], [], (q_kX (q_sL s 172 (vp_updL (s.2.2 172) 0 r590.toInt64)) c n))) rfl q_wX172 rfl ?_
              refine q_RP_seg (g2 := (24, [(0, .ref 64), (1, .int a1), (2, .int a2), (3, .int a3), (4, .ref 236)], [.int 0], (q_kX (q_sL s 172 (vp_updL (s.2.2 172) 0 r590.toInt64)) c n))) 2 (fun _ _ => rfl) ?_
              exact q_RP_ret rfl rfl rfl
        | false =>
          refine q_RP_cF ?_
          refine q_RP_callH (E := "java/lang/IndexOutOfBoundsException") (tg := 17) (i := 5) (h2 := (q_kX s (c + 1) (n + 6))) rfl rfl ?_ rfl ?_
          · refine q_Ca_of (Nat.le_of_ble_eq_true rfl) ?_
            refine q_Ru_seg (g2 := (1, [(0, .ref 64), (1, .int a1), (2, .int a2), (3, .int a3)], [.int a1], (q_kX s c n))) 1 (fun _ _ => rfl) ?_
            refine q_Ru_call (v := none) (h2 := (q_kX s c n)) rfl rfl ?_ ?_
            · refine q_Ca_of (Nat.le_of_ble_eq_true rfl) ?_
              refine q_Ru_seg (g2 := (4, [(0, .int a1)], [.int 4096, .int a1], (q_kX s c n))) 2 (fun _ _ => rfl) ?_
              refine q_Ru_call (v := none) (h2 := (q_kX s c n)) rfl rfl ?_ ?_
              · refine q_Ca_of (Nat.le_of_ble_eq_true rfl) ?_
                refine q_Ru_seg (g2 := (1, [(0, .int a1), (1, .int 4096)], [.int a1], (q_kX s c n))) 1 (fun _ _ => rfl) ?_
                refine q_Ru_rsF (g2 := (4, [(0, .int a1), (1, .int 4096)], [], (q_kX s c n))) rfl rfl h751 ?_
                refine q_Ru_seg (g2 := (6, [(0, .int a1), (1, .int 4096)], [.int 4096, .int a1], (q_kX s c n))) 2 (fun _ _ => rfl) ?_
                refine q_Ru_rsT (g2 := (19, [(0, .int a1), (1, .int 4096)], [], (q_kX s c n))) rfl rfl h752 ?_
                exact q_Ru_ret rfl rfl
              show q_Ru _ _ _ (7, [(0, .int a1)], [], (q_kX s c n)) _
              exact q_Ru_ret rfl rfl
            show q_Ru _ _ _ (4, [(0, .ref 64), (1, .int a1), (2, .int a2), (3, .int a3)], [], (q_kX s c n)) _
            refine q_Ru_seg (g2 := (5, [(0, .ref 64), (1, .int a1), (2, .int a2), (3, .int a3)], [.int a2], (q_kX s c n))) 1 (fun _ _ => rfl) ?_
            refine q_Ru_callX (E := "java/lang/IndexOutOfBoundsException") (h2 := (q_kX s (c + 1) (n + 6))) rfl rfl ?_
            refine q_Ca_of (Nat.le_of_ble_eq_true rfl) ?_
            refine q_Ru_seg (g2 := (4, [(0, .int a2)], [.int 4096, .int a2], (q_kX s c n))) 2 (fun _ _ => rfl) ?_
            refine q_Ru_callX (E := "java/lang/IndexOutOfBoundsException") (h2 := (q_kX s (c + 1) (n + 6))) rfl rfl ?_
            refine q_Ca_of (Nat.le_of_ble_eq_true rfl) ?_
            refine q_Ru_seg (g2 := (1, [(0, .int a2), (1, .int 4096)], [.int a2], (q_kX s c n))) 1 (fun _ _ => rfl) ?_
            refine q_Ru_rsF (g2 := (4, [(0, .int a2), (1, .int 4096)], [], (q_kX s c n))) rfl rfl h753 ?_
            refine q_Ru_seg (g2 := (6, [(0, .int a2), (1, .int 4096)], [.int 4096, .int a2], (q_kX s c n))) 2 (fun _ _ => rfl) ?_
            refine q_Ru_rsF (g2 := (9, [(0, .int a2), (1, .int 4096)], [], (q_kX s c n))) rfl rfl h754 ?_
            exact q_Ru_thr rfl rfl
          show q_RP _ _ _ (17, [(0, .ref 64), (1, .int a1), (2, .int a2), (3, .int a3), (4, .ref 236)], [], (q_kX s (c + 1) (n + 6))) _ _
          refine q_RP_seg (g2 := (18, [(0, .ref 64), (1, .int a1), (2, .int a2), (3, .int a3), (4, .ref 236)], [.int 1], (q_kX s (c + 1) (n + 6)))) 1 (fun _ _ => rfl) ?_
          exact q_RP_ret rfl rfl rfl
    | false =>
      refine q_RP_cF ?_
      refine q_RP_callH (E := "java/lang/IndexOutOfBoundsException") (tg := 17) (i := 5) (h2 := (q_kX s (c + 1) (n + 6))) rfl rfl ?_ rfl ?_
      · refine q_Ca_of (Nat.le_of_ble_eq_true rfl) ?_
        refine q_Ru_seg (g2 := (1, [(0, .ref 64), (1, .int a1), (2, .int a2), (3, .int a3)], [.int a1], (q_kX s c n))) 1 (fun _ _ => rfl) ?_
        refine q_Ru_callX (E := "java/lang/IndexOutOfBoundsException") (h2 := (q_kX s (c + 1) (n + 6))) rfl rfl ?_
        refine q_Ca_of (Nat.le_of_ble_eq_true rfl) ?_
        refine q_Ru_seg (g2 := (4, [(0, .int a1)], [.int 4096, .int a1], (q_kX s c n))) 2 (fun _ _ => rfl) ?_
        refine q_Ru_callX (E := "java/lang/IndexOutOfBoundsException") (h2 := (q_kX s (c + 1) (n + 6))) rfl rfl ?_
        refine q_Ca_of (Nat.le_of_ble_eq_true rfl) ?_
        refine q_Ru_seg (g2 := (1, [(0, .int a1), (1, .int 4096)], [.int a1], (q_kX s c n))) 1 (fun _ _ => rfl) ?_
        refine q_Ru_rsF (g2 := (4, [(0, .int a1), (1, .int 4096)], [], (q_kX s c n))) rfl rfl h751 ?_
        refine q_Ru_seg (g2 := (6, [(0, .int a1), (1, .int 4096)], [.int 4096, .int a1], (q_kX s c n))) 2 (fun _ _ => rfl) ?_
        refine q_Ru_rsF (g2 := (9, [(0, .int a1), (1, .int 4096)], [], (q_kX s c n))) rfl rfl h752 ?_
        exact q_Ru_thr rfl rfl
      show q_RP _ _ _ (17, [(0, .ref 64), (1, .int a1), (2, .int a2), (3, .int a3), (4, .ref 236)], [], (q_kX s (c + 1) (n + 6))) _ _
      refine q_RP_seg (g2 := (18, [(0, .ref 64), (1, .int a1), (2, .int a2), (3, .int a3), (4, .ref 236)], [.int 1], (q_kX s (c + 1) (n + 6)))) 1 (fun _ _ => rfl) ?_
      exact q_RP_ret rfl rfl rfl
def dz_X9_64_236 (s : q_S) (a1 : Int32) : q_S × Int32 × Nat :=
  cond (decide (a1 < 0)) ((s, 1, 1)) (cond (decide (a1 < 5)) (q_let (dz_N133_87 (q_vw 32 1 73 s) a1) fun r591 => ((q_sL s 172 (vp_updL (s.2.2 172) 0 r591.toInt64)), 0, 0)) ((s, 1, 1)))
set_option maxHeartbeats 4000000 in
theorem dzt_X9_64_236 (z L : Nat) (xs : Nat → Int32) (s : q_S) (c n : Nat) (a1 : Int32) : q_Ca (q_TBs z L xs) 4 9 [.ref 64, .int a1, .ref 236] (q_kX s c n) ((q_oEX c n) (dz_X9_64_236 s a1)) := by
  refine q_CaT_of (φ := (q_oEX c n)) (Nat.le_of_ble_eq_true rfl) ?_
  unfold dz_X9_64_236
  refine q_RT_seg (g2 := (4, [(0, .ref 64), (1, .int a1), (2, .ref 236)], [.int a1, .ref 64, .int 0, .ref 236], (q_kX s c n))) 4 (fun _ _ => rfl) ?_
  cases h759 : decide (a1 < 0) with
  | true =>
    refine q_RT_cT ?_
    refine q_RT_callH (E := "java/lang/IndexOutOfBoundsException") (tg := 13) (i := 3) (h2 := (q_kX s (c + 1) (n + 6))) rfl rfl ?_ rfl ?_
    · refine q_Ca_of (Nat.le_of_ble_eq_true rfl) ?_
      refine q_Ru_seg (g2 := (2, [(0, .ref 64), (1, .int a1)], [.int 5, .int a1], (q_kX s c n))) 2 (fun _ _ => rfl) ?_
      refine q_Ru_callX (E := "java/lang/IndexOutOfBoundsException") (h2 := (q_kX s (c + 1) (n + 6))) rfl rfl ?_
      refine q_Ca_of (Nat.le_of_ble_eq_true rfl) ?_
      refine q_Ru_seg (g2 := (1, [(0, .int a1), (1, .int 5)], [.int a1], (q_kX s c n))) 1 (fun _ _ => rfl) ?_
      refine q_Ru_rsT (g2 := (9, [(0, .int a1), (1, .int 5)], [], (q_kX s c n))) rfl rfl h759 ?_
      exact q_Ru_thr rfl rfl
    show q_RT _ _ _ (13, [(0, .ref 64), (1, .int a1), (2, .ref 236)], [], (q_kX s (c + 1) (n + 6))) _ _
    refine q_RT_seg (g2 := (14, [(0, .ref 64), (1, .int a1), (2, .ref 236)], [.int 1], (q_kX s (c + 1) (n + 6)))) 1 (fun _ _ => rfl) ?_
    exact q_RT_ret rfl rfl rfl
  | false =>
    refine q_RT_cF ?_
    cases h760 : decide (a1 < 5) with
    | true =>
      refine q_RT_cT ?_
      generalize er591 : dz_N133_87 (q_vw 32 1 73 s) a1 = r591
      refine q_RT_let ?_
      refine q_RT_call (v := (some (.int r591))) (h2 := (q_kX s c n)) rfl rfl ?_ ?_
      · refine q_Ca_of (Nat.le_of_ble_eq_true rfl) ?_
        refine q_Ru_seg (g2 := (2, [(0, .ref 64), (1, .int a1)], [.int 5, .int a1], (q_kX s c n))) 2 (fun _ _ => rfl) ?_
        refine q_Ru_call (v := none) (h2 := (q_kX s c n)) rfl rfl ?_ ?_
        · refine q_Ca_of (Nat.le_of_ble_eq_true rfl) ?_
          refine q_Ru_seg (g2 := (1, [(0, .int a1), (1, .int 5)], [.int a1], (q_kX s c n))) 1 (fun _ _ => rfl) ?_
          refine q_Ru_rsF (g2 := (4, [(0, .int a1), (1, .int 5)], [], (q_kX s c n))) rfl rfl h759 ?_
          refine q_Ru_seg (g2 := (6, [(0, .int a1), (1, .int 5)], [.int 5, .int a1], (q_kX s c n))) 2 (fun _ _ => rfl) ?_
          refine q_Ru_rsT (g2 := (19, [(0, .int a1), (1, .int 5)], [], (q_kX s c n))) rfl rfl h760 ?_
          exact q_Ru_ret rfl rfl
        show q_Ru _ _ _ (5, [(0, .ref 64), (1, .int a1)], [], (q_kX s c n)) _
        refine q_Ru_seg (g2 := (13, [(0, .ref 64), (1, .int a1)], [.int a1, .ref 88], (q_kX s c n))) 4 (fun _ _ => rfl) ?_
        refine q_Ru_call (v := (some (.int r591))) (h2 := (q_kX s c n)) rfl rfl ?_ ?_
        · exact (q_emNX_1p rfl (fun _ => rfl) ((q_cE (φ := (q_oP (q_kN (q_vw 32 1 73 s) c n))) er591 (dzt_N133_87 (q_vw 32 1 73 s) c n a1)).tb q_TB0_le)).le (Nat.le_of_ble_eq_true rfl)
        show q_Ru _ _ _ (16, [(0, .ref 64), (1, .int a1)], [.int r591], (q_kX s c n)) _
        exact q_Ru_ret rfl rfl
      show q_RT _ _ _ (7, [(0, .ref 64), (1, .int a1), (2, .ref 236)], [.int r591, .int 0, .ref 236], (q_kX s c n)) _ _
      refine q_RT_seg (g2 := (8, [(0, .ref 64), (1, .int a1), (2, .ref 236)], [.long r591.toInt64, .int 0, .ref 236], (q_kX s c n))) 1 (fun _ _ => rfl) ?_
      refine q_RT_rsT (g2 := (9, [(0, .ref 64), (1, .int a1), (2, .ref 236)], [], (q_kX (q_sL s 172 (vp_updL (s.2.2 172) 0 r591.toInt64)) c n))) rfl q_wX172 rfl ?_
      refine q_RT_seg (g2 := (16, [(0, .ref 64), (1, .int a1), (2, .ref 236)], [.int 0], (q_kX (q_sL s 172 (vp_updL (s.2.2 172) 0 r591.toInt64)) c n))) 2 (fun _ _ => rfl) ?_
      exact q_RT_ret rfl rfl rfl
    | false =>
      refine q_RT_cF ?_
      refine q_RT_callH (E := "java/lang/IndexOutOfBoundsException") (tg := 13) (i := 3) (h2 := (q_kX s (c + 1) (n + 6))) rfl rfl ?_ rfl ?_
      · refine q_Ca_of (Nat.le_of_ble_eq_true rfl) ?_
        refine q_Ru_seg (g2 := (2, [(0, .ref 64), (1, .int a1)], [.int 5, .int a1], (q_kX s c n))) 2 (fun _ _ => rfl) ?_
        refine q_Ru_callX (E := "java/lang/IndexOutOfBoundsException") (h2 := (q_kX s (c + 1) (n + 6))) rfl rfl ?_
        refine q_Ca_of (Nat.le_of_ble_eq_true rfl) ?_
        refine q_Ru_seg (g2 := (1, [(0, .int a1), (1, .int 5)], [.int a1], (q_kX s c n))) 1 (fun _ _ => rfl) ?_
        refine q_Ru_rsF (g2 := (4, [(0, .int a1), (1, .int 5)], [], (q_kX s c n))) rfl rfl h759 ?_
        refine q_Ru_seg (g2 := (6, [(0, .int a1), (1, .int 5)], [.int 5, .int a1], (q_kX s c n))) 2 (fun _ _ => rfl) ?_
        refine q_Ru_rsF (g2 := (9, [(0, .int a1), (1, .int 5)], [], (q_kX s c n))) rfl rfl h760 ?_
        exact q_Ru_thr rfl rfl
      show q_RT _ _ _ (13, [(0, .ref 64), (1, .int a1), (2, .ref 236)], [], (q_kX s (c + 1) (n + 6))) _ _
      refine q_RT_seg (g2 := (14, [(0, .ref 64), (1, .int a1), (2, .ref 236)], [.int 1], (q_kX s (c + 1) (n + 6)))) 1 (fun _ _ => rfl) ?_
      exact q_RT_ret rfl rfl rfl
def dz_X10_64_236 (s : q_S) (a1 : Int32) (a2 : Int32) : Option (q_S × Int32 × Nat) :=
  cond (decide (a1 < 0)) (some (s, 1, 1)) (cond (decide (a1 < 5)) (cond (decide (a1 = 4)) (cond (decide (a2 < 0)) (some (s, 2, 1)) (cond (decide (4095 < a2)) (some (s, 2, 1)) (cond (decide (0 < s.2.1 24 9)) (some (s, 3, 1)) (q_let (dz_X184_98 s 4 a1 a2 0) fun r593 => (dz_N79_64 (q_vw 32 1 73 r593) 4 a1 a2 0).bind fun r594 => some ((q_sL (q_pt 32 3 1 73 r593 r594.1) 172 (vp_updL ((q_pt 32 3 1 73 r593 r594.1).2.2 172) 0 r594.2.toInt64)), 0, 0))))) (cond (decide (a2 < 0)) (some (s, 2, 1)) (cond (decide (255 < a2)) (some (s, 2, 1)) (cond (decide (0 < s.2.1 24 9)) (some (s, 3, 1)) (q_let (dz_X184_98 s 4 a1 a2 0) fun r595 => (dz_N79_64 (q_vw 32 1 73 r595) 4 a1 a2 0).bind fun r596 => some ((q_sL (q_pt 32 3 1 73 r595 r596.1) 172 (vp_updL ((q_pt 32 3 1 73 r595 r596.1).2.2 172) 0 r596.2.toInt64)), 0, 0)))))) (some (s, 1, 1)))
set_option maxHeartbeats 4000000 in
theorem dzt_X10_64_236 (z L : Nat) (xs : Nat → Int32) (s : q_S) (c n : Nat) (a1 : Int32) (a2 : Int32) (x : q_S × Int32 × Nat) (h : dz_X10_64_236 s a1 a2 = some x) : q_Ca (q_TBs z L xs) 10 10 [.ref 64, .int a1, .int a2, .ref 236] (q_kX s c n) ((q_oEX c n) x) := by
  refine q_CaP_of (φ := (q_oEX c n)) (Nat.le_of_ble_eq_true rfl) ?_ h
  clear h
  unfold dz_X10_64_236
  refine q_RP_seg (g2 := (5, [(0, .ref 64), (1, .int a1), (2, .int a2), (3, .ref 236)], [.int a2, .int a1, .ref 64, .int 0, .ref 236], (q_kX s c n))) 5 (fun _ _ => rfl) ?_
  cases h767 : decide (a1 < 0) with
  | true =>
    refine q_RP_cT ?_
    refine q_RP_callH (E := "java/lang/IndexOutOfBoundsException") (tg := 15) (i := 4) (h2 := (q_kX s (c + 1) (n + 6))) rfl rfl ?_ rfl ?_
    · refine q_Ca_of (Nat.le_of_ble_eq_true rfl) ?_
      refine q_Ru_seg (g2 := (2, [(0, .ref 64), (1, .int a1), (2, .int a2)], [.int 5, .int a1], (q_kX s c n))) 2 (fun _ _ => rfl) ?_
      refine q_Ru_callX (E := "java/lang/IndexOutOfBoundsException") (h2 := (q_kX s (c + 1) (n + 6))) rfl rfl ?_
      refine q_Ca_of (Nat.le_of_ble_eq_true rfl) ?_
      refine q_Ru_seg (g2 := (1, [(0, .int a1), (1, .int 5)], [.int a1], (q_kX s c n))) 1 (fun _ _ => rfl) ?_
      refine q_Ru_rsT (g2 := (9, [(0, .int a1), (1, .int 5)], [], (q_kX s c n))) rfl rfl h767 ?_
      exact q_Ru_thr rfl rfl
    show q_RP _ _ _ (15, [(0, .ref 64), (1, .int a1), (2, .int a2), (3, .ref 236)], [], (q_kX s (c + 1) (n + 6))) _ _
    refine q_RP_seg (g2 := (16, [(0, .ref 64), (1, .int a1), (2, .int a2), (3, .ref 236)], [.int 1], (q_kX s (c + 1) (n + 6)))) 1 (fun _ _ => rfl) ?_
    exact q_RP_ret rfl rfl rfl
  | false =>
    refine q_RP_cF ?_
    cases h768 : decide (a1 < 5) with
    | true =>
      refine q_RP_cT ?_
      cases h769 : decide (a1 = 4) with
      | true =>
        refine q_RP_cT ?_
        cases h770 : decide (a2 < 0) with
        | true =>
          refine q_RP_cT ?_
          refine q_RP_callH (E := "java/lang/IllegalArgumentException") (tg := 19) (i := 4) (h2 := (q_kX s (c + 1) (n + 6))) rfl rfl ?_ rfl ?_
          · refine q_Ca_of (Nat.le_of_ble_eq_true rfl) ?_
            refine q_Ru_seg (g2 := (2, [(0, .ref 64), (1, .int a1), (2, .int a2)], [.int 5, .int a1], (q_kX s c n))) 2 (fun _ _ => rfl) ?_
            refine q_Ru_call (v := none) (h2 := (q_kX s c n)) rfl rfl ?_ ?_
            · refine q_Ca_of (Nat.le_of_ble_eq_true rfl) ?_
              refine q_Ru_seg (g2 := (1, [(0, .int a1), (1, .int 5)], [.int a1], (q_kX s c n))) 1 (fun _ _ => rfl) ?_
              refine q_Ru_rsF (g2 := (4, [(0, .int a1), (1, .int 5)], [], (q_kX s c n))) rfl rfl h767 ?_
              refine q_Ru_seg (g2 := (6, [(0, .int a1), (1, .int 5)], [.int 5, .int a1], (q_kX s c n))) 2 (fun _ _ => rfl) ?_
              refine q_Ru_rsT (g2 := (19, [(0, .int a1), (1, .int 5)], [], (q_kX s c n))) rfl rfl h768 ?_
              exact q_Ru_ret rfl rfl
            show q_Ru _ _ _ (5, [(0, .ref 64), (1, .int a1), (2, .int a2)], [], (q_kX s c n)) _
            refine q_Ru_seg (g2 := (9, [(0, .ref 64), (1, .int a1), (2, .int a2)], [.int 4, .int a1, .int 0, .int a2], (q_kX s c n))) 4 (fun _ _ => rfl) ?_
            refine q_Ru_rsF (g2 := (12, [(0, .ref 64), (1, .int a1), (2, .int a2)], [.int 0, .int a2], (q_kX s c n))) rfl rfl (q_d_neT h769) ?_
            refine q_Ru_seg (g2 := (21, [(0, .ref 64), (1, .int a1), (2, .int a2)], [.int 4095, .int 0, .int a2], (q_kX s c n))) 2 (fun _ _ => rfl) ?_
            refine q_Ru_callX (E := "java/lang/IllegalArgumentException") (h2 := (q_kX s (c + 1) (n + 6))) rfl rfl ?_
            refine q_Ca_of (Nat.le_of_ble_eq_true rfl) ?_
            refine q_Ru_seg (g2 := (2, [(0, .int a2), (1, .int 0), (2, .int 4095)], [.int 0, .int a2], (q_kX s c n))) 2 (fun _ _ => rfl) ?_
            refine q_Ru_rsT (g2 := (10, [(0, .int a2), (1, .int 0), (2, .int 4095)], [], (q_kX s c n))) rfl rfl h770 ?_
            exact q_Ru_thr rfl rfl
          show q_RP _ _ _ (19, [(0, .ref 64), (1, .int a1), (2, .int a2), (3, .ref 236)], [], (q_kX s (c + 1) (n + 6))) _ _
          refine q_RP_seg (g2 := (20, [(0, .ref 64), (1, .int a1), (2, .int a2), (3, .ref 236)], [.int 2], (q_kX s (c + 1) (n + 6)))) 1 (fun _ _ => rfl) ?_
          exact q_RP_ret rfl rfl rfl
        | false =>
          refine q_RP_cF ?_
          cases h771 : decide (4095 < a2) with
          | true =>
            refine q_RP_cT ?_
            refine q_RP_callH (E := "java/lang/IllegalArgumentException") (tg := 19) (i := 4) (h2 := (q_kX s (c + 1) (n + 6))) rfl rfl ?_ rfl ?_
            · refine q_Ca_of (Nat.le_of_ble_eq_true rfl) ?_
              refine q_Ru_seg (g2 := (2, [(0, .ref 64), (1, .int a1), (2, .int a2)], [.int 5, .int a1], (q_kX s c n))) 2 (fun _ _ => rfl) ?_
              refine q_Ru_call (v := none) (h2 := (q_kX s c n)) rfl rfl ?_ ?_
              · refine q_Ca_of (Nat.le_of_ble_eq_true rfl) ?_
                refine q_Ru_seg (g2 := (1, [(0, .int a1), (1, .int 5)], [.int a1], (q_kX s c n))) 1 (fun _ _ => rfl) ?_
                refine q_Ru_rsF (g2 := (4, [(0, .int a1), (1, .int 5)], [], (q_kX s c n))) rfl rfl h767 ?_
                refine q_Ru_seg (g2 := (6, [(0, .int a1), (1, .int 5)], [.int 5, .int a1], (q_kX s c n))) 2 (fun _ _ => rfl) ?_
                refine q_Ru_rsT (g2 := (19, [(0, .int a1), (1, .int 5)], [], (q_kX s c n))) rfl rfl h768 ?_
                exact q_Ru_ret rfl rfl
              show q_Ru _ _ _ (5, [(0, .ref 64), (1, .int a1), (2, .int a2)], [], (q_kX s c n)) _
              refine q_Ru_seg (g2 := (9, [(0, .ref 64), (1, .int a1), (2, .int a2)], [.int 4, .int a1, .int 0, .int a2], (q_kX s c n))) 4 (fun _ _ => rfl) ?_
              refine q_Ru_rsF (g2 := (12, [(0, .ref 64), (1, .int a1), (2, .int a2)], [.int 0, .int a2], (q_kX s c n))) rfl rfl (q_d_neT h769) ?_
              refine q_Ru_seg (g2 := (21, [(0, .ref 64), (1, .int a1), (2, .int a2)], [.int 4095, .int 0, .int a2], (q_kX s c n))) 2 (fun _ _ => rfl) ?_
              refine q_Ru_callX (E := "java/lang/IllegalArgumentException") (h2 := (q_kX s (c + 1) (n + 6))) rfl rfl ?_
              refine q_Ca_of (Nat.le_of_ble_eq_true rfl) ?_
              refine q_Ru_seg (g2 := (2, [(0, .int a2), (1, .int 0), (2, .int 4095)], [.int 0, .int a2], (q_kX s c n))) 2 (fun _ _ => rfl) ?_
              refine q_Ru_rsF (g2 := (5, [(0, .int a2), (1, .int 0), (2, .int 4095)], [], (q_kX s c n))) rfl rfl h770 ?_
              refine q_Ru_seg (g2 := (7, [(0, .int a2), (1, .int 0), (2, .int 4095)], [.int 4095, .int a2], (q_kX s c n))) 2 (fun _ _ => rfl) ?_
              refine q_Ru_rsF (g2 := (10, [(0, .int a2), (1, .int 0), (2, .int 4095)], [], (q_kX s c n))) rfl rfl (q_d_geT h771) ?_
              exact q_Ru_thr rfl rfl
            show q_RP _ _ _ (19, [(0, .ref 64), (1, .int a1), (2, .int a2), (3, .ref 236)], [], (q_kX s (c + 1) (n + 6))) _ _
            refine q_RP_seg (g2 := (20, [(0, .ref 64), (1, .int a1), (2, .int a2), (3, .ref 236)], [.int 2], (q_kX s (c + 1) (n + 6)))) 1 (fun _ _ => rfl) ?_
            exact q_RP_ret rfl rfl rfl
          | false =>
            refine q_RP_cF ?_
            cases h772 : decide (0 < s.2.1 24 9) with
            | true =>
              refine q_RP_cT ?_
              refine q_RP_callH (E := "java/lang/IllegalStateException") (tg := 23) (i := 4) (h2 := (q_kX s (c + 1) (n + 6))) rfl rfl ?_ rfl ?_
              · refine q_Ca_of (Nat.le_of_ble_eq_true rfl) ?_
                refine q_Ru_seg (g2 := (2, [(0, .ref 64), (1, .int a1), (2, .int a2)], [.int 5, .int a1], (q_kX s c n))) 2 (fun _ _ => rfl) ?_
                refine q_Ru_call (v := none) (h2 := (q_kX s c n)) rfl rfl ?_ ?_
                · refine q_Ca_of (Nat.le_of_ble_eq_true rfl) ?_
                  refine q_Ru_seg (g2 := (1, [(0, .int a1), (1, .int 5)], [.int a1], (q_kX s c n))) 1 (fun _ _ => rfl) ?_
                  refine q_Ru_rsF (g2 := (4, [(0, .int a1), (1, .int 5)], [], (q_kX s c n))) rfl rfl h767 ?_
                  refine q_Ru_seg (g2 := (6, [(0, .int a1), (1, .int 5)], [.int 5, .int a1], (q_kX s c n))) 2 (fun _ _ => rfl) ?_
                  refine q_Ru_rsT (g2 := (19, [(0, .int a1), (1, .int 5)], [], (q_kX s c n))) rfl rfl h768 ?_
                  exact q_Ru_ret rfl rfl
                show q_Ru _ _ _ (5, [(0, .ref 64), (1, .int a1), (2, .int a2)], [], (q_kX s c n)) _
                refine q_Ru_seg (g2 := (9, [(0, .ref 64), (1, .int a1), (2, .int a2)], [.int 4, .int a1, .int 0, .int a2], (q_kX s c n))) 4 (fun _ _ => rfl) ?_
                refine q_Ru_rsF (g2 := (12, [(0, .ref 64), (1, .int a1), (2, .int a2)], [.int 0, .int a2], (q_kX s c n))) rfl rfl (q_d_neT h769) ?_
                refine q_Ru_seg (g2 := (21, [(0, .ref 64), (1, .int a1), (2, .int a2)], [.int 4095, .int 0, .int a2], (q_kX s c n))) 2 (fun _ _ => rfl) ?_
                refine q_Ru_call (v := none) (h2 := (q_kX s c n)) rfl rfl ?_ ?_
                · refine q_Ca_of (Nat.le_of_ble_eq_true rfl) ?_
                  refine q_Ru_seg (g2 := (2, [(0, .int a2), (1, .int 0), (2, .int 4095)], [.int 0, .int a2], (q_kX s c n))) 2 (fun _ _ => rfl) ?_
                  refine q_Ru_rsF (g2 := (5, [(0, .int a2), (1, .int 0), (2, .int 4095)], [], (q_kX s c n))) rfl rfl h770 ?_
                  refine q_Ru_seg (g2 := (7, [(0, .int a2), (1, .int 0), (2, .int 4095)], [.int 4095, .int a2], (q_kX s c n))) 2 (fun _ _ => rfl) ?_
                  refine q_Ru_rsT (g2 := (20, [(0, .int a2), (1, .int 0), (2, .int 4095)], [], (q_kX s c n))) rfl rfl (q_d_geF h771) ?_
                  exact q_Ru_ret rfl rfl
                show q_Ru _ _ _ (24, [(0, .ref 64), (1, .int a1), (2, .int a2)], [], (q_kX s c n)) _
                refine q_Ru_seg (g2 := (34, [(0, .ref 64), (1, .int a1), (2, .int a2)], [.int (s.2.1 24 9)], (q_kX s c n))) 4 (fun _ _ => rfl) ?_
                refine q_Ru_rsF (g2 := (37, [(0, .ref 64), (1, .int a1), (2, .int a2)], [], (q_kX s c n))) rfl rfl (q_d_geT h772) ?_
                exact q_Ru_thr rfl rfl
              show q_RP _ _ _ (23, [(0, .ref 64), (1, .int a1), (2, .int a2), (3, .ref 236)], [], (q_kX s (c + 1) (n + 6))) _ _
              refine q_RP_seg (g2 := (24, [(0, .ref 64), (1, .int a1), (2, .int a2), (3, .ref 236)], [.int 3], (q_kX s (c + 1) (n + 6)))) 1 (fun _ _ => rfl) ?_
              exact q_RP_ret rfl rfl rfl
            | false =>
              refine q_RP_cF ?_
              generalize er593 : dz_X184_98 s 4 a1 a2 0 = r593
              refine q_RP_let ?_
              refine q_RP_bd fun r594 er594 => ?_
              refine q_RP_call (v := (some (.int r594.2))) (h2 := (q_kX (q_pt 32 3 1 73 r593 r594.1) c n)) rfl rfl ?_ ?_
              · refine q_Ca_of (Nat.le_of_ble_eq_true rfl) ?_
                refine q_Ru_seg (g2 := (2, [(0, .ref 64), (1, .int a1), (2, .int a2)], [.int 5, .int a1], (q_kX s c n))) 2 (fun _ _ => rfl) ?_
                refine q_Ru_call (v := none) (h2 := (q_kX s c n)) rfl rfl ?_ ?_
                · refine q_Ca_of (Nat.le_of_ble_eq_true rfl) ?_
                  refine q_Ru_seg (g2 := (1, [(0, .int a1), (1, .int 5)], [.int a1], (q_kX s c n))) 1 (fun _ _ => rfl) ?_
                  refine q_Ru_rsF (g2 := (4, [(0, .int a1), (1, .int 5)], [], (q_kX s c n))) rfl rfl h767 ?_
                  refine q_Ru_seg (g2 := (6, [(0, .int a1), (1, .int 5)], [.int 5, .int a1], (q_kX s c n))) 2 (fun _ _ => rfl) ?_
                  refine q_Ru_rsT (g2 := (19, [(0, .int a1), (1, .int 5)], [], (q_kX s c n))) rfl rfl h768 ?_
                  exact q_Ru_ret rfl rfl
                show q_Ru _ _ _ (5, [(0, .ref 64), (1, .int a1), (2, .int a2)], [], (q_kX s c n)) _
                refine q_Ru_seg (g2 := (9, [(0, .ref 64), (1, .int a1), (2, .int a2)], [.int 4, .int a1, .int 0, .int a2], (q_kX s c n))) 4 (fun _ _ => rfl) ?_
                refine q_Ru_rsF (g2 := (12, [(0, .ref 64), (1, .int a1), (2, .int a2)], [.int 0, .int a2], (q_kX s c n))) rfl rfl (q_d_neT h769) ?_
                refine q_Ru_seg (g2 := (21, [(0, .ref 64), (1, .int a1), (2, .int a2)], [.int 4095, .int 0, .int a2], (q_kX s c n))) 2 (fun _ _ => rfl) ?_
                refine q_Ru_call (v := none) (h2 := (q_kX s c n)) rfl rfl ?_ ?_
                · refine q_Ca_of (Nat.le_of_ble_eq_true rfl) ?_
                  refine q_Ru_seg (g2 := (2, [(0, .int a2), (1, .int 0), (2, .int 4095)], [.int 0, .int a2], (q_kX s c n))) 2 (fun _ _ => rfl) ?_
                  refine q_Ru_rsF (g2 := (5, [(0, .int a2), (1, .int 0), (2, .int 4095)], [], (q_kX s c n))) rfl rfl h770 ?_
                  refine q_Ru_seg (g2 := (7, [(0, .int a2), (1, .int 0), (2, .int 4095)], [.int 4095, .int a2], (q_kX s c n))) 2 (fun _ _ => rfl) ?_
                  refine q_Ru_rsT (g2 := (20, [(0, .int a2), (1, .int 0), (2, .int 4095)], [], (q_kX s c n))) rfl rfl (q_d_geF h771) ?_
                  exact q_Ru_ret rfl rfl
                show q_Ru _ _ _ (24, [(0, .ref 64), (1, .int a1), (2, .int a2)], [], (q_kX s c n)) _
                refine q_Ru_seg (g2 := (34, [(0, .ref 64), (1, .int a1), (2, .int a2)], [.int (s.2.1 24 9)], (q_kX s c n))) 4 (fun _ _ => rfl) ?_
                refine q_Ru_rsT (g2 := (47, [(0, .ref 64), (1, .int a1), (2, .int a2)], [], (q_kX s c n))) rfl rfl (q_d_geF h772) ?_
                refine q_Ru_seg (g2 := (55, [(0, .ref 64), (1, .int a1), (2, .int a2)], [.int 0, .int a2, .int a1, .int 4, .ref 98], (q_kX s c n))) 6 (fun _ _ => rfl) ?_
                refine q_Ru_call (v := none) (h2 := (q_kX r593 c n)) rfl rfl ?_ ?_
                · exact (q_cE (φ := (q_oSX c n)) er593 (dzt_X184_98 z L xs s c n 4 a1 a2 0)).le (Nat.le_of_ble_eq_true rfl)
                show q_Ru _ _ _ (58, [(0, .ref 64), (1, .int a1), (2, .int a2)], [], (q_kX r593 c n)) _
                refine q_Ru_seg (g2 := (66, [(0, .ref 64), (1, .int a1), (2, .int a2)], [.int 0, .int a2, .int a1, .int 4, .ref 65], (q_kX r593 c n))) 6 (fun _ _ => rfl) ?_
                refine q_Ru_call (v := (some (.int r594.2))) (h2 := (q_kX (q_pt 32 3 1 73 r593 r594.1) c n)) rfl rfl ?_ ?_
                · exact (q_emNX_1 rfl (fun _ => rfl) ((dzt_N79_64 (q_vw 32 1 73 r593) c n 4 a1 a2 0 r594 er594).tb q_TB0_le)).le (Nat.le_of_ble_eq_true rfl)
                show q_Ru _ _ _ (69, [(0, .ref 64), (1, .int a1), (2, .int a2)], [.int r594.2], (q_kX (q_pt 32 3 1 73 r593 r594.1) c n)) _
                exact q_Ru_ret rfl rfl
              show q_RP _ _ _ (8, [(0, .ref 64), (1, .int a1), (2, .int a2), (3, .ref 236)], [.int r594.2, .int 0, .ref 236], (q_kX (q_pt 32 3 1 73 r593 r594.1) c n)) _ _
              refine q_RP_seg (g2 := (9, [(0, .ref 64), (1, .int a1), (2, .int a2), (3, .ref 236)], [.long r594.2.toInt64, .int 0, .ref 236], (q_kX (q_pt 32 3 1 73 r593 r594.1) c n))) 1 (fun _ _ => rfl) ?_
              refine q_RP_rsT (g2 := (10, [(0, .ref 64), (1, .int a1), (2, .int a2), (3, .ref 236)], [], (q_kX (q_sL (q_pt 32 3 1 73 r593 r594.1) 172 (vp_updL ((q_pt 32 3 1 73 r593 r594.1).2.2 172) 0 r594.2.toInt64)) c n))) rfl q_wX172 rfl ?_
              refine q_RP_seg (g2 := (26, [(0, .ref 64), (1, .int a1), (2, .int a2), (3, .ref 236)], [.int 0], (q_kX (q_sL (q_pt 32 3 1 73 r593 r594.1) 172 (vp_updL ((q_pt 32 3 1 73 r593 r594.1).2.2 172) 0 r594.2.toInt64)) c n))) 2 (fun _ _ => rfl) ?_
              exact q_RP_ret rfl rfl rfl
      | false =>
        refine q_RP_cF ?_
        cases h773 : decide (a2 < 0) with
        | true =>
          refine q_RP_cT ?_
          refine q_RP_callH (E := "java/lang/IllegalArgumentException") (tg := 19) (i := 4) (h2 := (q_kX s (c + 1) (n + 6))) rfl rfl ?_ rfl ?_
          · refine q_Ca_of (Nat.le_of_ble_eq_true rfl) ?_
            refine q_Ru_seg (g2 := (2, [(0, .ref 64), (1, .int a1), (2, .int a2)], [.int 5, .int a1], (q_kX s c n))) 2 (fun _ _ => rfl) ?_
            refine q_Ru_call (v := none) (h2 := (q_kX s c n)) rfl rfl ?_ ?_
            · refine q_Ca_of (Nat.le_of_ble_eq_true rfl) ?_
              refine q_Ru_seg (g2 := (1, [(0, .int a1), (1, .int 5)], [.int a1], (q_kX s c n))) 1 (fun _ _ => rfl) ?_
              refine q_Ru_rsF (g2 := (4, [(0, .int a1), (1, .int 5)], [], (q_kX s c n))) rfl rfl h767 ?_
              refine q_Ru_seg (g2 := (6, [(0, .int a1), (1, .int 5)], [.int 5, .int a1], (q_kX s c n))) 2 (fun _ _ => rfl) ?_
              refine q_Ru_rsT (g2 := (19, [(0, .int a1), (1, .int 5)], [], (q_kX s c n))) rfl rfl h768 ?_
              exact q_Ru_ret rfl rfl
            show q_Ru _ _ _ (5, [(0, .ref 64), (1, .int a1), (2, .int a2)], [], (q_kX s c n)) _
            refine q_Ru_seg (g2 := (9, [(0, .ref 64), (1, .int a1), (2, .int a2)], [.int 4, .int a1, .int 0, .int a2], (q_kX s c n))) 4 (fun _ _ => rfl) ?_
            refine q_Ru_rsT (g2 := (18, [(0, .ref 64), (1, .int a1), (2, .int a2)], [.int 0, .int a2], (q_kX s c n))) rfl rfl (q_d_neF h769) ?_
            refine q_Ru_seg (g2 := (21, [(0, .ref 64), (1, .int a1), (2, .int a2)], [.int 255, .int 0, .int a2], (q_kX s c n))) 1 (fun _ _ => rfl) ?_
            refine q_Ru_callX (E := "java/lang/IllegalArgumentException") (h2 := (q_kX s (c + 1) (n + 6))) rfl rfl ?_
            refine q_Ca_of (Nat.le_of_ble_eq_true rfl) ?_
            refine q_Ru_seg (g2 := (2, [(0, .int a2), (1, .int 0), (2, .int 255)], [.int 0, .int a2], (q_kX s c n))) 2 (fun _ _ => rfl) ?_
            refine q_Ru_rsT (g2 := (10, [(0, .int a2), (1, .int 0), (2, .int 255)], [], (q_kX s c n))) rfl rfl h773 ?_
            exact q_Ru_thr rfl rfl
          show q_RP _ _ _ (19, [(0, .ref 64), (1, .int a1), (2, .int a2), (3, .ref 236)], [], (q_kX s (c + 1) (n + 6))) _ _
          refine q_RP_seg (g2 := (20, [(0, .ref 64), (1, .int a1), (2, .int a2), (3, .ref 236)], [.int 2], (q_kX s (c + 1) (n + 6)))) 1 (fun _ _ => rfl) ?_
          exact q_RP_ret rfl rfl rfl
        | false =>
          refine q_RP_cF ?_
          cases h774 : decide (255 < a2) with
          | true =>
            refine q_RP_cT ?_
            refine q_RP_callH (E := "java/lang/IllegalArgumentException") (tg := 19) (i := 4) (h2 := (q_kX s (c + 1) (n + 6))) rfl rfl ?_ rfl ?_
            · refine q_Ca_of (Nat.le_of_ble_eq_true rfl) ?_
              refine q_Ru_seg (g2 := (2, [(0, .ref 64), (1, .int a1), (2, .int a2)], [.int 5, .int a1], (q_kX s c n))) 2 (fun _ _ => rfl) ?_
              refine q_Ru_call (v := none) (h2 := (q_kX s c n)) rfl rfl ?_ ?_
              · refine q_Ca_of (Nat.le_of_ble_eq_true rfl) ?_
                refine q_Ru_seg (g2 := (1, [(0, .int a1), (1, .int 5)], [.int a1], (q_kX s c n))) 1 (fun _ _ => rfl) ?_
                refine q_Ru_rsF (g2 := (4, [(0, .int a1), (1, .int 5)], [], (q_kX s c n))) rfl rfl h767 ?_
                refine q_Ru_seg (g2 := (6, [(0, .int a1), (1, .int 5)], [.int 5, .int a1], (q_kX s c n))) 2 (fun _ _ => rfl) ?_
                refine q_Ru_rsT (g2 := (19, [(0, .int a1), (1, .int 5)], [], (q_kX s c n))) rfl rfl h768 ?_
                exact q_Ru_ret rfl rfl
              show q_Ru _ _ _ (5, [(0, .ref 64), (1, .int a1), (2, .int a2)], [], (q_kX s c n)) _
              refine q_Ru_seg (g2 := (9, [(0, .ref 64), (1, .int a1), (2, .int a2)], [.int 4, .int a1, .int 0, .int a2], (q_kX s c n))) 4 (fun _ _ => rfl) ?_
              refine q_Ru_rsT (g2 := (18, [(0, .ref 64), (1, .int a1), (2, .int a2)], [.int 0, .int a2], (q_kX s c n))) rfl rfl (q_d_neF h769) ?_
              refine q_Ru_seg (g2 := (21, [(0, .ref 64), (1, .int a1), (2, .int a2)], [.int 255, .int 0, .int a2], (q_kX s c n))) 1 (fun _ _ => rfl) ?_
              refine q_Ru_callX (E := "java/lang/IllegalArgumentException") (h2 := (q_kX s (c + 1) (n + 6))) rfl rfl ?_
              refine q_Ca_of (Nat.le_of_ble_eq_true rfl) ?_
              refine q_Ru_seg (g2 := (2, [(0, .int a2), (1, .int 0), (2, .int 255)], [.int 0, .int a2], (q_kX s c n))) 2 (fun _ _ => rfl) ?_
              refine q_Ru_rsF (g2 := (5, [(0, .int a2), (1, .int 0), (2, .int 255)], [], (q_kX s c n))) rfl rfl h773 ?_
              refine q_Ru_seg (g2 := (7, [(0, .int a2), (1, .int 0), (2, .int 255)], [.int 255, .int a2], (q_kX s c n))) 2 (fun _ _ => rfl) ?_
              refine q_Ru_rsF (g2 := (10, [(0, .int a2), (1, .int 0), (2, .int 255)], [], (q_kX s c n))) rfl rfl (q_d_geT h774) ?_
              exact q_Ru_thr rfl rfl
            show q_RP _ _ _ (19, [(0, .ref 64), (1, .int a1), (2, .int a2), (3, .ref 236)], [], (q_kX s (c + 1) (n + 6))) _ _
            refine q_RP_seg (g2 := (20, [(0, .ref 64), (1, .int a1), (2, .int a2), (3, .ref 236)], [.int 2], (q_kX s (c + 1) (n + 6)))) 1 (fun _ _ => rfl) ?_
            exact q_RP_ret rfl rfl rfl
          | false =>
            refine q_RP_cF ?_
            cases h775 : decide (0 < s.2.1 24 9) with
            | true =>
              refine q_RP_cT ?_
              refine q_RP_callH (E := "java/lang/IllegalStateException") (tg := 23) (i := 4) (h2 := (q_kX s (c + 1) (n + 6))) rfl rfl ?_ rfl ?_
              · refine q_Ca_of (Nat.le_of_ble_eq_true rfl) ?_
                refine q_Ru_seg (g2 := (2, [(0, .ref 64), (1, .int a1), (2, .int a2)], [.int 5, .int a1], (q_kX s c n))) 2 (fun _ _ => rfl) ?_
                refine q_Ru_call (v := none) (h2 := (q_kX s c n)) rfl rfl ?_ ?_
                · refine q_Ca_of (Nat.le_of_ble_eq_true rfl) ?_
                  refine q_Ru_seg (g2 := (1, [(0, .int a1), (1, .int 5)], [.int a1], (q_kX s c n))) 1 (fun _ _ => rfl) ?_
                  refine q_Ru_rsF (g2 := (4, [(0, .int a1), (1, .int 5)], [], (q_kX s c n))) rfl rfl h767 ?_
                  refine q_Ru_seg (g2 := (6, [(0, .int a1), (1, .int 5)], [.int 5, .int a1], (q_kX s c n))) 2 (fun _ _ => rfl) ?_
                  refine q_Ru_rsT (g2 := (19, [(0, .int a1), (1, .int 5)], [], (q_kX s c n))) rfl rfl h768 ?_
                  exact q_Ru_ret rfl rfl
                show q_Ru _ _ _ (5, [(0, .ref 64), (1, .int a1), (2, .int a2)], [], (q_kX s c n)) _
                refine q_Ru_seg (g2 := (9, [(0, .ref 64), (1, .int a1), (2, .int a2)], [.int 4, .int a1, .int 0, .int a2], (q_kX s c n))) 4 (fun _ _ => rfl) ?_
                refine q_Ru_rsT (g2 := (18, [(0, .ref 64), (1, .int a1), (2, .int a2)], [.int 0, .int a2], (q_kX s c n))) rfl rfl (q_d_neF h769) ?_
                refine q_Ru_seg (g2 := (21, [(0, .ref 64), (1, .int a1), (2, .int a2)], [.int 255, .int 0, .int a2], (q_kX s c n))) 1 (fun _ _ => rfl) ?_
                refine q_Ru_call (v := none) (h2 := (q_kX s c n)) rfl rfl ?_ ?_
                · refine q_Ca_of (Nat.le_of_ble_eq_true rfl) ?_
                  refine q_Ru_seg (g2 := (2, [(0, .int a2), (1, .int 0), (2, .int 255)], [.int 0, .int a2], (q_kX s c n))) 2 (fun _ _ => rfl) ?_
                  refine q_Ru_rsF (g2 := (5, [(0, .int a2), (1, .int 0), (2, .int 255)], [], (q_kX s c n))) rfl rfl h773 ?_
                  refine q_Ru_seg (g2 := (7, [(0, .int a2), (1, .int 0), (2, .int 255)], [.int 255, .int a2], (q_kX s c n))) 2 (fun _ _ => rfl) ?_
                  refine q_Ru_rsT (g2 := (20, [(0, .int a2), (1, .int 0), (2, .int 255)], [], (q_kX s c n))) rfl rfl (q_d_geF h774) ?_
                  exact q_Ru_ret rfl rfl
                show q_Ru _ _ _ (24, [(0, .ref 64), (1, .int a1), (2, .int a2)], [], (q_kX s c n)) _
                refine q_Ru_seg (g2 := (34, [(0, .ref 64), (1, .int a1), (2, .int a2)], [.int (s.2.1 24 9)], (q_kX s c n))) 4 (fun _ _ => rfl) ?_
                refine q_Ru_rsF (g2 := (37, [(0, .ref 64), (1, .int a1), (2, .int a2)], [], (q_kX s c n))) rfl rfl (q_d_geT h775) ?_
                exact q_Ru_thr rfl rfl
              show q_RP _ _ _ (23, [(0, .ref 64), (1, .int a1), (2, .int a2), (3, .ref 236)], [], (q_kX s (c + 1) (n + 6))) _ _
              refine q_RP_seg (g2 := (24, [(0, .ref 64), (1, .int a1), (2, .int a2), (3, .ref 236)], [.int 3], (q_kX s (c + 1) (n + 6)))) 1 (fun _ _ => rfl) ?_
              exact q_RP_ret rfl rfl rfl
            | false =>
              refine q_RP_cF ?_
              generalize er595 : dz_X184_98 s 4 a1 a2 0 = r595
              refine q_RP_let ?_
              refine q_RP_bd fun r596 er596 => ?_
              refine q_RP_call (v := (some (.int r596.2))) (h2 := (q_kX (q_pt 32 3 1 73 r595 r596.1) c n)) rfl rfl ?_ ?_
              · refine q_Ca_of (Nat.le_of_ble_eq_true rfl) ?_
                refine q_Ru_seg (g2 := (2, [(0, .ref 64), (1, .int a1), (2, .int a2)], [.int 5, .int a1], (q_kX s c n))) 2 (fun _ _ => rfl) ?_
                refine q_Ru_call (v := none) (h2 := (q_kX s c n)) rfl rfl ?_ ?_
                · refine q_Ca_of (Nat.le_of_ble_eq_true rfl) ?_
                  refine q_Ru_seg (g2 := (1, [(0, .int a1), (1, .int 5)], [.int a1], (q_kX s c n))) 1 (fun _ _ => rfl) ?_
                  refine q_Ru_rsF (g2 := (4, [(0, .int a1), (1, .int 5)], [], (q_kX s c n))) rfl rfl h767 ?_
                  refine q_Ru_seg (g2 := (6, [(0, .int a1), (1, .int 5)], [.int 5, .int a1], (q_kX s c n))) 2 (fun _ _ => rfl) ?_
                  refine q_Ru_rsT (g2 := (19, [(0, .int a1), (1, .int 5)], [], (q_kX s c n))) rfl rfl h768 ?_
                  exact q_Ru_ret rfl rfl
                show q_Ru _ _ _ (5, [(0, .ref 64), (1, .int a1), (2, .int a2)], [], (q_kX s c n)) _
                refine q_Ru_seg (g2 := (9, [(0, .ref 64), (1, .int a1), (2, .int a2)], [.int 4, .int a1, .int 0, .int a2], (q_kX s c n))) 4 (fun _ _ => rfl) ?_
                refine q_Ru_rsT (g2 := (18, [(0, .ref 64), (1, .int a1), (2, .int a2)], [.int 0, .int a2], (q_kX s c n))) rfl rfl (q_d_neF h769) ?_
                refine q_Ru_seg (g2 := (21, [(0, .ref 64), (1, .int a1), (2, .int a2)], [.int 255, .int 0, .int a2], (q_kX s c n))) 1 (fun _ _ => rfl) ?_
                refine q_Ru_call (v := none) (h2 := (q_kX s c n)) rfl rfl ?_ ?_
                · refine q_Ca_of (Nat.le_of_ble_eq_true rfl) ?_
                  refine q_Ru_seg (g2 := (2, [(0, .int a2), (1, .int 0), (2, .int 255)], [.int 0, .int a2], (q_kX s c n))) 2 (fun _ _ => rfl) ?_
                  refine q_Ru_rsF (g2 := (5, [(0, .int a2), (1, .int 0), (2, .int 255)], [], (q_kX s c n))) rfl rfl h773 ?_
                  refine q_Ru_seg (g2 := (7, [(0, .int a2), (1, .int 0), (2, .int 255)], [.int 255, .int a2], (q_kX s c n))) 2 (fun _ _ => rfl) ?_
                  refine q_Ru_rsT (g2 := (20, [(0, .int a2), (1, .int 0), (2, .int 255)], [], (q_kX s c n))) rfl rfl (q_d_geF h774) ?_
                  exact q_Ru_ret rfl rfl
                show q_Ru _ _ _ (24, [(0, .ref 64), (1, .int a1), (2, .int a2)], [], (q_kX s c n)) _
                refine q_Ru_seg (g2 := (34, [(0, .ref 64), (1, .int a1), (2, .int a2)], [.int (s.2.1 24 9)], (q_kX s c n))) 4 (fun _ _ => rfl) ?_
                refine q_Ru_rsT (g2 := (47, [(0, .ref 64), (1, .int a1), (2, .int a2)], [], (q_kX s c n))) rfl rfl (q_d_geF h775) ?_
                refine q_Ru_seg (g2 := (55, [(0, .ref 64), (1, .int a1), (2, .int a2)], [.int 0, .int a2, .int a1, .int 4, .ref 98], (q_kX s c n))) 6 (fun _ _ => rfl) ?_
                refine q_Ru_call (v := none) (h2 := (q_kX r595 c n)) rfl rfl ?_ ?_
                · exact (q_cE (φ := (q_oSX c n)) er595 (dzt_X184_98 z L xs s c n 4 a1 a2 0)).le (Nat.le_of_ble_eq_true rfl)
                show q_Ru _ _ _ (58, [(0, .ref 64), (1, .int a1), (2, .int a2)], [], (q_kX r595 c n)) _
                refine q_Ru_seg (g2 := (66, [(0, .ref 64), (1, .int a1), (2, .int a2)], [.int 0, .int a2, .int a1, .int 4, .ref 65], (q_kX r595 c n))) 6 (fun _ _ => rfl) ?_
                refine q_Ru_call (v := (some (.int r596.2))) (h2 := (q_kX (q_pt 32 3 1 73 r595 r596.1) c n)) rfl rfl ?_ ?_
                · exact (q_emNX_1 rfl (fun _ => rfl) ((dzt_N79_64 (q_vw 32 1 73 r595) c n 4 a1 a2 0 r596 er596).tb q_TB0_le)).le (Nat.le_of_ble_eq_true rfl)
                show q_Ru _ _ _ (69, [(0, .ref 64), (1, .int a1), (2, .int a2)], [.int r596.2], (q_kX (q_pt 32 3 1 73 r595 r596.1) c n)) _
                exact q_Ru_ret rfl rfl
              show q_RP _ _ _ (8, [(0, .ref 64), (1, .int a1), (2, .int a2), (3, .ref 236)], [.int r596.2, .int 0, .ref 236], (q_kX (q_pt 32 3 1 73 r595 r596.1) c n)) _ _
              refine q_RP_seg (g2 := (9, [(0, .ref 64), (1, .int a1), (2, .int a2), (3, .ref 236)], [.long r596.2.toInt64, .int 0, .ref 236], (q_kX (q_pt 32 3 1 73 r595 r596.1) c n))) 1 (fun _ _ => rfl) ?_
              refine q_RP_rsT (g2 := (10, [(0, .ref 64), (1, .int a1), (2, .int a2), (3, .ref 236)], [], (q_kX (q_sL (q_pt 32 3 1 73 r595 r596.1) 172 (vp_updL ((q_pt 32 3 1 73 r595 r596.1).2.2 172) 0 r596.2.toInt64)) c n))) rfl q_wX172 rfl ?_
              refine q_RP_seg (g2 := (26, [(0, .ref 64), (1, .int a1), (2, .int a2), (3, .ref 236)], [.int 0], (q_kX (q_sL (q_pt 32 3 1 73 r595 r596.1) 172 (vp_updL ((q_pt 32 3 1 73 r595 r596.1).2.2 172) 0 r596.2.toInt64)) c n))) 2 (fun _ _ => rfl) ?_
              exact q_RP_ret rfl rfl rfl
    | false =>
      refine q_RP_cF ?_
      refine q_RP_callH (E := "java/lang/IndexOutOfBoundsException") (tg := 15) (i := 4) (h2 := (q_kX s (c + 1) (n + 6))) rfl rfl ?_ rfl ?_
      · refine q_Ca_of (Nat.le_of_ble_eq_true rfl) ?_
        refine q_Ru_seg (g2 := (2, [(0, .ref 64), (1, .int a1), (2, .int a2)], [.int 5, .int a1], (q_kX s c n))) 2 (fun _ _ => rfl) ?_
        refine q_Ru_callX (E := "java/lang/IndexOutOfBoundsException") (h2 := (q_kX s (c + 1) (n + 6))) rfl rfl ?_
        refine q_Ca_of (Nat.le_of_ble_eq_true rfl) ?_
        refine q_Ru_seg (g2 := (1, [(0, .int a1), (1, .int 5)], [.int a1], (q_kX s c n))) 1 (fun _ _ => rfl) ?_
        refine q_Ru_rsF (g2 := (4, [(0, .int a1), (1, .int 5)], [], (q_kX s c n))) rfl rfl h767 ?_
        refine q_Ru_seg (g2 := (6, [(0, .int a1), (1, .int 5)], [.int 5, .int a1], (q_kX s c n))) 2 (fun _ _ => rfl) ?_
        refine q_Ru_rsF (g2 := (9, [(0, .int a1), (1, .int 5)], [], (q_kX s c n))) rfl rfl h768 ?_
        exact q_Ru_thr rfl rfl
      show q_RP _ _ _ (15, [(0, .ref 64), (1, .int a1), (2, .int a2), (3, .ref 236)], [], (q_kX s (c + 1) (n + 6))) _ _
      refine q_RP_seg (g2 := (16, [(0, .ref 64), (1, .int a1), (2, .int a2), (3, .ref 236)], [.int 1], (q_kX s (c + 1) (n + 6)))) 1 (fun _ _ => rfl) ?_
      exact q_RP_ret rfl rfl rfl
def dz_X11_64_236 (s : q_S) (a1 : Int32) : Option (q_S × Int32 × Nat) :=
  cond (decide (a1 < 1)) (some (s, 1, 1)) (cond (decide (1000 < a1)) (some (s, 1, 1)) (q_let (dz_X184_98 s 7 a1 0 0) fun r598 => (dz_N79_64 (q_vw 32 1 73 r598) 7 a1 0 0).bind fun r599 => some ((q_sL (q_pt 32 3 1 73 r598 r599.1) 172 (vp_updL ((q_pt 32 3 1 73 r598 r599.1).2.2 172) 0 r599.2.toInt64)), 0, 0)))
set_option maxHeartbeats 4000000 in
theorem dzt_X11_64_236 (z L : Nat) (xs : Nat → Int32) (s : q_S) (c n : Nat) (a1 : Int32) (x : q_S × Int32 × Nat) (h : dz_X11_64_236 s a1 = some x) : q_Ca (q_TBs z L xs) 10 11 [.ref 64, .int a1, .ref 236] (q_kX s c n) ((q_oEX c n) x) := by
  refine q_CaP_of (φ := (q_oEX c n)) (Nat.le_of_ble_eq_true rfl) ?_ h
  clear h
  unfold dz_X11_64_236
  refine q_RP_seg (g2 := (4, [(0, .ref 64), (1, .int a1), (2, .ref 236)], [.int a1, .ref 64, .int 0, .ref 236], (q_kX s c n))) 4 (fun _ _ => rfl) ?_
  cases h778 : decide (a1 < 1) with
  | true =>
    refine q_RP_cT ?_
    refine q_RP_callH (E := "java/lang/IllegalArgumentException") (tg := 13) (i := 3) (h2 := (q_kX s (c + 1) (n + 6))) rfl rfl ?_ rfl ?_
    · refine q_Ca_of (Nat.le_of_ble_eq_true rfl) ?_
      refine q_Ru_seg (g2 := (5, [(0, .ref 64), (1, .int a1)], [.int 1000, .int 1, .int a1], (q_kX s c n))) 3 (fun _ _ => rfl) ?_
      refine q_Ru_callX (E := "java/lang/IllegalArgumentException") (h2 := (q_kX s (c + 1) (n + 6))) rfl rfl ?_
      refine q_Ca_of (Nat.le_of_ble_eq_true rfl) ?_
      refine q_Ru_seg (g2 := (2, [(0, .int a1), (1, .int 1), (2, .int 1000)], [.int 1, .int a1], (q_kX s c n))) 2 (fun _ _ => rfl) ?_
      refine q_Ru_rsT (g2 := (10, [(0, .int a1), (1, .int 1), (2, .int 1000)], [], (q_kX s c n))) rfl rfl h778 ?_
      exact q_Ru_thr rfl rfl
    show q_RP _ _ _ (13, [(0, .ref 64), (1, .int a1), (2, .ref 236)], [], (q_kX s (c + 1) (n + 6))) _ _
    refine q_RP_seg (g2 := (14, [(0, .ref 64), (1, .int a1), (2, .ref 236)], [.int 1], (q_kX s (c + 1) (n + 6)))) 1 (fun _ _ => rfl) ?_
    exact q_RP_ret rfl rfl rfl
  | false =>
    refine q_RP_cF ?_
    cases h779 : decide (1000 < a1) with
    | true =>
      refine q_RP_cT ?_
      refine q_RP_callH (E := "java/lang/IllegalArgumentException") (tg := 13) (i := 3) (h2 := (q_kX s (c + 1) (n + 6))) rfl rfl ?_ rfl ?_
      · refine q_Ca_of (Nat.le_of_ble_eq_true rfl) ?_
        refine q_Ru_seg (g2 := (5, [(0, .ref 64), (1, .int a1)], [.int 1000, .int 1, .int a1], (q_kX s c n))) 3 (fun _ _ => rfl) ?_
        refine q_Ru_callX (E := "java/lang/IllegalArgumentException") (h2 := (q_kX s (c + 1) (n + 6))) rfl rfl ?_
        refine q_Ca_of (Nat.le_of_ble_eq_true rfl) ?_
        refine q_Ru_seg (g2 := (2, [(0, .int a1), (1, .int 1), (2, .int 1000)], [.int 1, .int a1], (q_kX s c n))) 2 (fun _ _ => rfl) ?_
        refine q_Ru_rsF (g2 := (5, [(0, .int a1), (1, .int 1), (2, .int 1000)], [], (q_kX s c n))) rfl rfl h778 ?_
        refine q_Ru_seg (g2 := (7, [(0, .int a1), (1, .int 1), (2, .int 1000)], [.int 1000, .int a1], (q_kX s c n))) 2 (fun _ _ => rfl) ?_
        refine q_Ru_rsF (g2 := (10, [(0, .int a1), (1, .int 1), (2, .int 1000)], [], (q_kX s c n))) rfl rfl (q_d_geT h779) ?_
        exact q_Ru_thr rfl rfl
      show q_RP _ _ _ (13, [(0, .ref 64), (1, .int a1), (2, .ref 236)], [], (q_kX s (c + 1) (n + 6))) _ _
      refine q_RP_seg (g2 := (14, [(0, .ref 64), (1, .int a1), (2, .ref 236)], [.int 1], (q_kX s (c + 1) (n + 6)))) 1 (fun _ _ => rfl) ?_
      exact q_RP_ret rfl rfl rfl
    | false =>
      refine q_RP_cF ?_
      generalize er598 : dz_X184_98 s 7 a1 0 0 = r598
      refine q_RP_let ?_
      refine q_RP_bd fun r599 er599 => ?_
      refine q_RP_call (v := (some (.int r599.2))) (h2 := (q_kX (q_pt 32 3 1 73 r598 r599.1) c n)) rfl rfl ?_ ?_
      · refine q_Ca_of (Nat.le_of_ble_eq_true rfl) ?_
        refine q_Ru_seg (g2 := (5, [(0, .ref 64), (1, .int a1)], [.int 1000, .int 1, .int a1], (q_kX s c n))) 3 (fun _ _ => rfl) ?_
        refine q_Ru_call (v := none) (h2 := (q_kX s c n)) rfl rfl ?_ ?_
        · refine q_Ca_of (Nat.le_of_ble_eq_true rfl) ?_
          refine q_Ru_seg (g2 := (2, [(0, .int a1), (1, .int 1), (2, .int 1000)], [.int 1, .int a1], (q_kX s c n))) 2 (fun _ _ => rfl) ?_
          refine q_Ru_rsF (g2 := (5, [(0, .int a1), (1, .int 1), (2, .int 1000)], [], (q_kX s c n))) rfl rfl h778 ?_
          refine q_Ru_seg (g2 := (7, [(0, .int a1), (1, .int 1), (2, .int 1000)], [.int 1000, .int a1], (q_kX s c n))) 2 (fun _ _ => rfl) ?_
          refine q_Ru_rsT (g2 := (20, [(0, .int a1), (1, .int 1), (2, .int 1000)], [], (q_kX s c n))) rfl rfl (q_d_geF h779) ?_
          exact q_Ru_ret rfl rfl
        show q_Ru _ _ _ (8, [(0, .ref 64), (1, .int a1)], [], (q_kX s c n)) _
        refine q_Ru_seg (g2 := (17, [(0, .ref 64), (1, .int a1)], [.int 0, .int 0, .int a1, .int 7, .ref 98], (q_kX s c n))) 6 (fun _ _ => rfl) ?_
        refine q_Ru_call (v := none) (h2 := (q_kX r598 c n)) rfl rfl ?_ ?_
        · exact (q_cE (φ := (q_oSX c n)) er598 (dzt_X184_98 z L xs s c n 7 a1 0 0)).le (Nat.le_of_ble_eq_true rfl)
        show q_Ru _ _ _ (20, [(0, .ref 64), (1, .int a1)], [], (q_kX r598 c n)) _
        refine q_Ru_seg (g2 := (29, [(0, .ref 64), (1, .int a1)], [.int 0, .int 0, .int a1, .int 7, .ref 65], (q_kX r598 c n))) 6 (fun _ _ => rfl) ?_
        refine q_Ru_call (v := (some (.int r599.2))) (h2 := (q_kX (q_pt 32 3 1 73 r598 r599.1) c n)) rfl rfl ?_ ?_
        · exact (q_emNX_1 rfl (fun _ => rfl) ((dzt_N79_64 (q_vw 32 1 73 r598) c n 7 a1 0 0 r599 er599).tb q_TB0_le)).le (Nat.le_of_ble_eq_true rfl)
        show q_Ru _ _ _ (32, [(0, .ref 64), (1, .int a1)], [.int r599.2], (q_kX (q_pt 32 3 1 73 r598 r599.1) c n)) _
        exact q_Ru_ret rfl rfl
      show q_RP _ _ _ (7, [(0, .ref 64), (1, .int a1), (2, .ref 236)], [.int r599.2, .int 0, .ref 236], (q_kX (q_pt 32 3 1 73 r598 r599.1) c n)) _ _
      refine q_RP_seg (g2 := (8, [(0, .ref 64), (1, .int a1), (2, .ref 236)], [.long r599.2.toInt64, .int 0, .ref 236], (q_kX (q_pt 32 3 1 73 r598 r599.1) c n))) 1 (fun _ _ => rfl) ?_
      refine q_RP_rsT (g2 := (9, [(0, .ref 64), (1, .int a1), (2, .ref 236)], [], (q_kX (q_sL (q_pt 32 3 1 73 r598 r599.1) 172 (vp_updL ((q_pt 32 3 1 73 r598 r599.1).2.2 172) 0 r599.2.toInt64)) c n))) rfl q_wX172 rfl ?_
      refine q_RP_seg (g2 := (16, [(0, .ref 64), (1, .int a1), (2, .ref 236)], [.int 0], (q_kX (q_sL (q_pt 32 3 1 73 r598 r599.1) 172 (vp_updL ((q_pt 32 3 1 73 r598 r599.1).2.2 172) 0 r599.2.toInt64)) c n))) 2 (fun _ _ => rfl) ?_
      exact q_RP_ret rfl rfl rfl
def dz_X12_64_236 (s : q_S) : Option (q_S × Int32 × Nat) :=
  cond (decide (s.2.1 24 7 = 0)) (q_let (dz_X184_98 s 8 0 0 0) fun r601 => (dz_N79_64 (q_vw 32 1 73 r601) 8 0 0 0).bind fun r602 => some ((q_sL (q_pt 32 3 1 73 r601 r602.1) 172 (vp_updL ((q_pt 32 3 1 73 r601 r602.1).2.2 172) 0 r602.2.toInt64)), 0, 0)) (some (s, 1, 1))
set_option maxHeartbeats 4000000 in
theorem dzt_X12_64_236 (z L : Nat) (xs : Nat → Int32) (s : q_S) (c n : Nat) (x : q_S × Int32 × Nat) (h : dz_X12_64_236 s = some x) : q_Ca (q_TBs z L xs) 10 12 [.ref 64, .ref 236] (q_kX s c n) ((q_oEX c n) x) := by
  refine q_CaP_of (φ := (q_oEX c n)) (Nat.le_of_ble_eq_true rfl) ?_ h
  clear h
  unfold dz_X12_64_236
  refine q_RP_seg (g2 := (3, [(0, .ref 64), (1, .ref 236)], [.ref 64, .int 0, .ref 236], (q_kX s c n))) 3 (fun _ _ => rfl) ?_
  cases h781 : decide (s.2.1 24 7 = 0) with
  | true =>
    refine q_RP_cT ?_
    generalize er601 : dz_X184_98 s 8 0 0 0 = r601
    refine q_RP_let ?_
    refine q_RP_bd fun r602 er602 => ?_
    refine q_RP_call (v := (some (.int r602.2))) (h2 := (q_kX (q_pt 32 3 1 73 r601 r602.1) c n)) rfl rfl ?_ ?_
    · refine q_Ca_of (Nat.le_of_ble_eq_true rfl) ?_
      refine q_Ru_seg (g2 := (10, [(0, .ref 64)], [.int (s.2.1 24 7)], (q_kX s c n))) 4 (fun _ _ => rfl) ?_
      refine q_Ru_rsT (g2 := (23, [(0, .ref 64)], [], (q_kX s c n))) rfl rfl h781 ?_
      refine q_Ru_seg (g2 := (32, [(0, .ref 64)], [.int 0, .int 0, .int 0, .int 8, .ref 98], (q_kX s c n))) 6 (fun _ _ => rfl) ?_
      refine q_Ru_call (v := none) (h2 := (q_kX r601 c n)) rfl rfl ?_ ?_
      · exact (q_cE (φ := (q_oSX c n)) er601 (dzt_X184_98 z L xs s c n 8 0 0 0)).le (Nat.le_of_ble_eq_true rfl)
      show q_Ru _ _ _ (35, [(0, .ref 64)], [], (q_kX r601 c n)) _
      refine q_Ru_seg (g2 := (44, [(0, .ref 64)], [.int 0, .int 0, .int 0, .int 8, .ref 65], (q_kX r601 c n))) 6 (fun _ _ => rfl) ?_
      refine q_Ru_call (v := (some (.int r602.2))) (h2 := (q_kX (q_pt 32 3 1 73 r601 r602.1) c n)) rfl rfl ?_ ?_
      · exact (q_emNX_1 rfl (fun _ => rfl) ((dzt_N79_64 (q_vw 32 1 73 r601) c n 8 0 0 0 r602 er602).tb q_TB0_le)).le (Nat.le_of_ble_eq_true rfl)
      show q_Ru _ _ _ (47, [(0, .ref 64)], [.int r602.2], (q_kX (q_pt 32 3 1 73 r601 r602.1) c n)) _
      exact q_Ru_ret rfl rfl
    show q_RP _ _ _ (6, [(0, .ref 64), (1, .ref 236)], [.int r602.2, .int 0, .ref 236], (q_kX (q_pt 32 3 1 73 r601 r602.1) c n)) _ _
    refine q_RP_seg (g2 := (7, [(0, .ref 64), (1, .ref 236)], [.long r602.2.toInt64, .int 0, .ref 236], (q_kX (q_pt 32 3 1 73 r601 r602.1) c n))) 1 (fun _ _ => rfl) ?_
    refine q_RP_rsT (g2 := (8, [(0, .ref 64), (1, .ref 236)], [], (q_kX (q_sL (q_pt 32 3 1 73 r601 r602.1) 172 (vp_updL ((q_pt 32 3 1 73 r601 r602.1).2.2 172) 0 r602.2.toInt64)) c n))) rfl q_wX172 rfl ?_
    refine q_RP_seg (g2 := (15, [(0, .ref 64), (1, .ref 236)], [.int 0], (q_kX (q_sL (q_pt 32 3 1 73 r601 r602.1) 172 (vp_updL ((q_pt 32 3 1 73 r601 r602.1).2.2 172) 0 r602.2.toInt64)) c n))) 2 (fun _ _ => rfl) ?_
    exact q_RP_ret rfl rfl rfl
  | false =>
    refine q_RP_cF ?_
    refine q_RP_callH (E := "java/lang/IllegalStateException") (tg := 12) (i := 2) (h2 := (q_kX s (c + 1) (n + 6))) rfl rfl ?_ rfl ?_
    · refine q_Ca_of (Nat.le_of_ble_eq_true rfl) ?_
      refine q_Ru_seg (g2 := (10, [(0, .ref 64)], [.int (s.2.1 24 7)], (q_kX s c n))) 4 (fun _ _ => rfl) ?_
      refine q_Ru_rsF (g2 := (13, [(0, .ref 64)], [], (q_kX s c n))) rfl rfl h781 ?_
      exact q_Ru_thr rfl rfl
    show q_RP _ _ _ (12, [(0, .ref 64), (1, .ref 236)], [], (q_kX s (c + 1) (n + 6))) _ _
    refine q_RP_seg (g2 := (13, [(0, .ref 64), (1, .ref 236)], [.int 1], (q_kX s (c + 1) (n + 6)))) 1 (fun _ _ => rfl) ?_
    exact q_RP_ret rfl rfl rfl
def dz_X13_64_236 (s : q_S) (a1 : Int32) : q_S × Int32 × Nat :=
  cond (decide (s.2.1 24 11 < 16)) (cond (decide (a1 < 0)) ((s, 1, 1)) (cond (decide (a1 < s.2.1 24 11)) (((q_sL s 172 (vp_updL (s.2.2 172) 0 (((s.1 25) (((((s.2.1 24 11) - 1) - a1) &&& 15).toNatClampNeg)).toInt64))), 0, 0)) ((s, 1, 1)))) (cond (decide (a1 < 0)) ((s, 1, 1)) (cond (decide (a1 < 16)) (((q_sL s 172 (vp_updL (s.2.2 172) 0 (((s.1 25) (((((s.2.1 24 11) - 1) - a1) &&& 15).toNatClampNeg)).toInt64))), 0, 0)) ((s, 1, 1))))
set_option maxHeartbeats 4000000 in
theorem dzt_X13_64_236 (z L : Nat) (xs : Nat → Int32) (s : q_S) (c n : Nat) (a1 : Int32) : q_Ca (q_TBs z L xs) 3 13 [.ref 64, .int a1, .ref 236] (q_kX s c n) ((q_oEX c n) (dz_X13_64_236 s a1)) := by
  refine q_CaT_of (φ := (q_oEX c n)) (Nat.le_of_ble_eq_true rfl) ?_
  unfold dz_X13_64_236
  refine q_RT_seg (g2 := (4, [(0, .ref 64), (1, .int a1), (2, .ref 236)], [.int a1, .ref 64, .int 0, .ref 236], (q_kX s c n))) 4 (fun _ _ => rfl) ?_
  cases h782 : decide (s.2.1 24 11 < 16) with
  | true =>
    refine q_RT_cT ?_
    cases h783 : decide (a1 < 0) with
    | true =>
      refine q_RT_cT ?_
      refine q_RT_callH (E := "java/lang/IndexOutOfBoundsException") (tg := 13) (i := 3) (h2 := (q_kX s (c + 1) (n + 6))) rfl rfl ?_ rfl ?_
      · refine q_Ca_of (Nat.le_of_ble_eq_true rfl) ?_
        refine q_Ru_seg (g2 := (15, [(2, .ref 88), (0, .ref 64), (1, .int a1)], [.int 16, .int (s.2.1 24 11), .int a1], (q_kX s c n))) 8 (fun _ _ => rfl) ?_
        refine q_Ru_rsF (g2 := (18, [(2, .ref 88), (0, .ref 64), (1, .int a1)], [.int a1], (q_kX s c n))) rfl rfl (q_d_geT h782) ?_
        refine q_Ru_seg (g2 := (27, [(2, .ref 88), (0, .ref 64), (1, .int a1)], [.int (s.2.1 24 11), .int a1], (q_kX s c n))) 3 (fun _ _ => rfl) ?_
        refine q_Ru_callX (E := "java/lang/IndexOutOfBoundsException") (h2 := (q_kX s (c + 1) (n + 6))) rfl rfl ?_
        refine q_Ca_of (Nat.le_of_ble_eq_true rfl) ?_
        refine q_Ru_seg (g2 := (1, [(0, .int a1), (1, .int (s.2.1 24 11))], [.int a1], (q_kX s c n))) 1 (fun _ _ => rfl) ?_
        refine q_Ru_rsT (g2 := (9, [(0, .int a1), (1, .int (s.2.1 24 11))], [], (q_kX s c n))) rfl rfl h783 ?_
        exact q_Ru_thr rfl rfl
      show q_RT _ _ _ (13, [(0, .ref 64), (1, .int a1), (2, .ref 236)], [], (q_kX s (c + 1) (n + 6))) _ _
      refine q_RT_seg (g2 := (14, [(0, .ref 64), (1, .int a1), (2, .ref 236)], [.int 1], (q_kX s (c + 1) (n + 6)))) 1 (fun _ _ => rfl) ?_
      exact q_RT_ret rfl rfl rfl
    | false =>
      refine q_RT_cF ?_
      cases h784 : decide (a1 < s.2.1 24 11) with
      | true =>
        refine q_RT_cT ?_
        refine q_RT_call (v := (some (.int ((s.1 25) (((((s.2.1 24 11) - 1) - a1) &&& 15).toNatClampNeg))))) (h2 := (q_kX s c n)) rfl rfl ?_ ?_
        · refine q_Ca_of (Nat.le_of_ble_eq_true rfl) ?_
          refine q_Ru_seg (g2 := (15, [(2, .ref 88), (0, .ref 64), (1, .int a1)], [.int 16, .int (s.2.1 24 11), .int a1], (q_kX s c n))) 8 (fun _ _ => rfl) ?_
          refine q_Ru_rsF (g2 := (18, [(2, .ref 88), (0, .ref 64), (1, .int a1)], [.int a1], (q_kX s c n))) rfl rfl (q_d_geT h782) ?_
          refine q_Ru_seg (g2 := (27, [(2, .ref 88), (0, .ref 64), (1, .int a1)], [.int (s.2.1 24 11), .int a1], (q_kX s c n))) 3 (fun _ _ => rfl) ?_
          refine q_Ru_call (v := none) (h2 := (q_kX s c n)) rfl rfl ?_ ?_
          · refine q_Ca_of (Nat.le_of_ble_eq_true rfl) ?_
            refine q_Ru_seg (g2 := (1, [(0, .int a1), (1, .int (s.2.1 24 11))], [.int a1], (q_kX s c n))) 1 (fun _ _ => rfl) ?_
            refine q_Ru_rsF (g2 := (4, [(0, .int a1), (1, .int (s.2.1 24 11))], [], (q_kX s c n))) rfl rfl h783 ?_
            refine q_Ru_seg (g2 := (6, [(0, .int a1), (1, .int (s.2.1 24 11))], [.int (s.2.1 24 11), .int a1], (q_kX s c n))) 2 (fun _ _ => rfl) ?_
            refine q_Ru_rsT (g2 := (19, [(0, .int a1), (1, .int (s.2.1 24 11))], [], (q_kX s c n))) rfl rfl h784 ?_
            exact q_Ru_ret rfl rfl
          show q_Ru _ _ _ (30, [(2, .ref 88), (0, .ref 64), (1, .int a1)], [], (q_kX s c n)) _
          refine q_Ru_seg (g2 := (45, [(2, .ref 88), (0, .ref 64), (1, .int a1)], [.int ((((s.2.1 24 11) - 1) - a1) &&& 15), .ref 89], (q_kX s c n))) 10 (fun _ _ => rfl) ?_
          refine q_Ru_rsT (g2 := (46, [(2, .ref 88), (0, .ref 64), (1, .int a1)], [.int ((s.1 25) (((((s.2.1 24 11) - 1) - a1) &&& 15).toNatClampNeg))], (q_kX s c n))) rfl rfl (q_in_bd (x := (((s.2.1 24 11) - 1) - a1) &&& 15) (n := 16) (U := 15) (L := 0) (q_and_lo (((s.2.1 24 11) - 1) - a1) 15) (q_and_hi (((s.2.1 24 11) - 1) - a1) 15 15)) ?_
          exact q_Ru_ret rfl rfl
        show q_RT _ _ _ (7, [(0, .ref 64), (1, .int a1), (2, .ref 236)], [.int ((s.1 25) (((((s.2.1 24 11) - 1) - a1) &&& 15).toNatClampNeg)), .int 0, .ref 236], (q_kX s c n)) _ _
        refine q_RT_seg (g2 := (8, [(0, .ref 64), (1, .int a1), (2, .ref 236)], [.long (((s.1 25) (((((s.2.1 24 11) - 1) - a1) &&& 15).toNatClampNeg)).toInt64), .int 0, .ref 236], (q_kX s c n))) 1 (fun _ _ => rfl) ?_
        refine q_RT_rsT (g2 := (9, [(0, .ref 64), (1, .int a1), (2, .ref 236)], [], (q_kX (q_sL s 172 (vp_updL (s.2.2 172) 0 (((s.1 25) (((((s.2.1 24 11) - 1) - a1) &&& 15).toNatClampNeg)).toInt64))) c n))) rfl q_wX172 rfl ?_
        refine q_RT_seg (g2 := (16, [(0, .ref 64), (1, .int a1), (2, .ref 236)], [.int 0], (q_kX (q_sL s 172 (vp_updL (s.2.2 172) 0 (((s.1 25) (((((s.2.1 24 11) - 1) - a1) &&& 15).toNatClampNeg)).toInt64))) c n))) 2 (fun _ _ => rfl) ?_
        exact q_RT_ret rfl rfl rfl
      | false =>
        refine q_RT_cF ?_
        refine q_RT_callH (E := "java/lang/IndexOutOfBoundsException") (tg := 13) (i := 3) (h2 := (q_kX s (c + 1) (n + 6))) rfl rfl ?_ rfl ?_
        · refine q_Ca_of (Nat.le_of_ble_eq_true rfl) ?_
          refine q_Ru_seg (g2 := (15, [(2, .ref 88), (0, .ref 64), (1, .int a1)], [.int 16, .int (s.2.1 24 11), .int a1], (q_kX s c n))) 8 (fun _ _ => rfl) ?_
          refine q_Ru_rsF (g2 := (18, [(2, .ref 88), (0, .ref 64), (1, .int a1)], [.int a1], (q_kX s c n))) rfl rfl (q_d_geT h782) ?_
          refine q_Ru_seg (g2 := (27, [(2, .ref 88), (0, .ref 64), (1, .int a1)], [.int (s.2.1 24 11), .int a1], (q_kX s c n))) 3 (fun _ _ => rfl) ?_
          refine q_Ru_callX (E := "java/lang/IndexOutOfBoundsException") (h2 := (q_kX s (c + 1) (n + 6))) rfl rfl ?_
          refine q_Ca_of (Nat.le_of_ble_eq_true rfl) ?_
          refine q_Ru_seg (g2 := (1, [(0, .int a1), (1, .int (s.2.1 24 11))], [.int a1], (q_kX s c n))) 1 (fun _ _ => rfl) ?_
          refine q_Ru_rsF (g2 := (4, [(0, .int a1), (1, .int (s.2.1 24 11))], [], (q_kX s c n))) rfl rfl h783 ?_
          refine q_Ru_seg (g2 := (6, [(0, .int a1), (1, .int (s.2.1 24 11))], [.int (s.2.1 24 11), .int a1], (q_kX s c n))) 2 (fun _ _ => rfl) ?_
          refine q_Ru_rsF (g2 := (9, [(0, .int a1), (1, .int (s.2.1 24 11))], [], (q_kX s c n))) rfl rfl h784 ?_
          exact q_Ru_thr rfl rfl
        show q_RT _ _ _ (13, [(0, .ref 64), (1, .int a1), (2, .ref 236)], [], (q_kX s (c + 1) (n + 6))) _ _
        refine q_RT_seg (g2 := (14, [(0, .ref 64), (1, .int a1), (2, .ref 236)], [.int 1], (q_kX s (c + 1) (n + 6)))) 1 (fun _ _ => rfl) ?_
        exact q_RT_ret rfl rfl rfl
  | false =>
    refine q_RT_cF ?_
    cases h785 : decide (a1 < 0) with
    | true =>
      refine q_RT_cT ?_
      refine q_RT_callH (E := "java/lang/IndexOutOfBoundsException") (tg := 13) (i := 3) (h2 := (q_kX s (c + 1) (n + 6))) rfl rfl ?_ rfl ?_
      · refine q_Ca_of (Nat.le_of_ble_eq_true rfl) ?_
        refine q_Ru_seg (g2 := (15, [(2, .ref 88), (0, .ref 64), (1, .int a1)], [.int 16, .int (s.2.1 24 11), .int a1], (q_kX s c n))) 8 (fun _ _ => rfl) ?_
        refine q_Ru_rsT (g2 := (25, [(2, .ref 88), (0, .ref 64), (1, .int a1)], [.int a1], (q_kX s c n))) rfl rfl (q_d_geF h782) ?_
        refine q_Ru_seg (g2 := (27, [(2, .ref 88), (0, .ref 64), (1, .int a1)], [.int 16, .int a1], (q_kX s c n))) 1 (fun _ _ => rfl) ?_
        refine q_Ru_callX (E := "java/lang/IndexOutOfBoundsException") (h2 := (q_kX s (c + 1) (n + 6))) rfl rfl ?_
        refine q_Ca_of (Nat.le_of_ble_eq_true rfl) ?_
        refine q_Ru_seg (g2 := (1, [(0, .int a1), (1, .int 16)], [.int a1], (q_kX s c n))) 1 (fun _ _ => rfl) ?_
        refine q_Ru_rsT (g2 := (9, [(0, .int a1), (1, .int 16)], [], (q_kX s c n))) rfl rfl h785 ?_
        exact q_Ru_thr rfl rfl
      show q_RT _ _ _ (13, [(0, .ref 64), (1, .int a1), (2, .ref 236)], [], (q_kX s (c + 1) (n + 6))) _ _
      refine q_RT_seg (g2 := (14, [(0, .ref 64), (1, .int a1), (2, .ref 236)], [.int 1], (q_kX s (c + 1) (n + 6)))) 1 (fun _ _ => rfl) ?_
      exact q_RT_ret rfl rfl rfl
    | false =>
      refine q_RT_cF ?_
      cases h786 : decide (a1 < 16) with
      | true =>
        refine q_RT_cT ?_
        refine q_RT_call (v := (some (.int ((s.1 25) (((((s.2.1 24 11) - 1) - a1) &&& 15).toNatClampNeg))))) (h2 := (q_kX s c n)) rfl rfl ?_ ?_
        · refine q_Ca_of (Nat.le_of_ble_eq_true rfl) ?_
          refine q_Ru_seg (g2 := (15, [(2, .ref 88), (0, .ref 64), (1, .int a1)], [.int 16, .int (s.2.1 24 11), .int a1], (q_kX s c n))) 8 (fun _ _ => rfl) ?_
          refine q_Ru_rsT (g2 := (25, [(2, .ref 88), (0, .ref 64), (1, .int a1)], [.int a1], (q_kX s c n))) rfl rfl (q_d_geF h782) ?_
          refine q_Ru_seg (g2 := (27, [(2, .ref 88), (0, .ref 64), (1, .int a1)], [.int 16, .int a1], (q_kX s c n))) 1 (fun _ _ => rfl) ?_
          refine q_Ru_call (v := none) (h2 := (q_kX s c n)) rfl rfl ?_ ?_
          · refine q_Ca_of (Nat.le_of_ble_eq_true rfl) ?_
            refine q_Ru_seg (g2 := (1, [(0, .int a1), (1, .int 16)], [.int a1], (q_kX s c n))) 1 (fun _ _ => rfl) ?_
            refine q_Ru_rsF (g2 := (4, [(0, .int a1), (1, .int 16)], [], (q_kX s c n))) rfl rfl h785 ?_
            refine q_Ru_seg (g2 := (6, [(0, .int a1), (1, .int 16)], [.int 16, .int a1], (q_kX s c n))) 2 (fun _ _ => rfl) ?_
            refine q_Ru_rsT (g2 := (19, [(0, .int a1), (1, .int 16)], [], (q_kX s c n))) rfl rfl h786 ?_
            exact q_Ru_ret rfl rfl
          show q_Ru _ _ _ (30, [(2, .ref 88), (0, .ref 64), (1, .int a1)], [], (q_kX s c n)) _
          refine q_Ru_seg (g2 := (45, [(2, .ref 88), (0, .ref 64), (1, .int a1)], [.int ((((s.2.1 24 11) - 1) - a1) &&& 15), .ref 89], (q_kX s c n))) 10 (fun _ _ => rfl) ?_
          refine q_Ru_rsT (g2 := (46, [(2, .ref 88), (0, .ref 64), (1, .int a1)], [.int ((s.1 25) (((((s.2.1 24 11) - 1) - a1) &&& 15).toNatClampNeg))], (q_kX s c n))) rfl rfl (q_in_bd (x := (((s.2.1 24 11) - 1) - a1) &&& 15) (n := 16) (U := 15) (L := 0) (q_and_lo (((s.2.1 24 11) - 1) - a1) 15) (q_and_hi (((s.2.1 24 11) - 1) - a1) 15 15)) ?_
          exact q_Ru_ret rfl rfl
        show q_RT _ _ _ (7, [(0, .ref 64), (1, .int a1), (2, .ref 236)], [.int ((s.1 25) (((((s.2.1 24 11) - 1) - a1) &&& 15).toNatClampNeg)), .int 0, .ref 236], (q_kX s c n)) _ _
        refine q_RT_seg (g2 := (8, [(0, .ref 64), (1, .int a1), (2, .ref 236)], [.long (((s.1 25) (((((s.2.1 24 11) - 1) - a1) &&& 15).toNatClampNeg)).toInt64), .int 0, .ref 236], (q_kX s c n))) 1 (fun _ _ => rfl) ?_
        refine q_RT_rsT (g2 := (9, [(0, .ref 64), (1, .int a1), (2, .ref 236)], [], (q_kX (q_sL s 172 (vp_updL (s.2.2 172) 0 (((s.1 25) (((((s.2.1 24 11) - 1) - a1) &&& 15).toNatClampNeg)).toInt64))) c n))) rfl q_wX172 rfl ?_
        refine q_RT_seg (g2 := (16, [(0, .ref 64), (1, .int a1), (2, .ref 236)], [.int 0], (q_kX (q_sL s 172 (vp_updL (s.2.2 172) 0 (((s.1 25) (((((s.2.1 24 11) - 1) - a1) &&& 15).toNatClampNeg)).toInt64))) c n))) 2 (fun _ _ => rfl) ?_
        exact q_RT_ret rfl rfl rfl
      | false =>
        refine q_RT_cF ?_
        refine q_RT_callH (E := "java/lang/IndexOutOfBoundsException") (tg := 13) (i := 3) (h2 := (q_kX s (c + 1) (n + 6))) rfl rfl ?_ rfl ?_
        · refine q_Ca_of (Nat.le_of_ble_eq_true rfl) ?_
          refine q_Ru_seg (g2 := (15, [(2, .ref 88), (0, .ref 64), (1, .int a1)], [.int 16, .int (s.2.1 24 11), .int a1], (q_kX s c n))) 8 (fun _ _ => rfl) ?_
          refine q_Ru_rsT (g2 := (25, [(2, .ref 88), (0, .ref 64), (1, .int a1)], [.int a1], (q_kX s c n))) rfl rfl (q_d_geF h782) ?_
          refine q_Ru_seg (g2 := (27, [(2, .ref 88), (0, .ref 64), (1, .int a1)], [.int 16, .int a1], (q_kX s c n))) 1 (fun _ _ => rfl) ?_
          refine q_Ru_callX (E := "java/lang/IndexOutOfBoundsException") (h2 := (q_kX s (c + 1) (n + 6))) rfl rfl ?_
          refine q_Ca_of (Nat.le_of_ble_eq_true rfl) ?_
          refine q_Ru_seg (g2 := (1, [(0, .int a1), (1, .int 16)], [.int a1], (q_kX s c n))) 1 (fun _ _ => rfl) ?_
          refine q_Ru_rsF (g2 := (4, [(0, .int a1), (1, .int 16)], [], (q_kX s c n))) rfl rfl h785 ?_
          refine q_Ru_seg (g2 := (6, [(0, .int a1), (1, .int 16)], [.int 16, .int a1], (q_kX s c n))) 2 (fun _ _ => rfl) ?_
          refine q_Ru_rsF (g2 := (9, [(0, .int a1), (1, .int 16)], [], (q_kX s c n))) rfl rfl h786 ?_
          exact q_Ru_thr rfl rfl
        show q_RT _ _ _ (13, [(0, .ref 64), (1, .int a1), (2, .ref 236)], [], (q_kX s (c + 1) (n + 6))) _ _
        refine q_RT_seg (g2 := (14, [(0, .ref 64), (1, .int a1), (2, .ref 236)], [.int 1], (q_kX s (c + 1) (n + 6)))) 1 (fun _ _ => rfl) ?_
        exact q_RT_ret rfl rfl rfl
def dz_X14_64_236 (s : q_S) (a1 : Int32) (a2 : Int32) : q_S × Int32 × Nat :=
  cond (decide (a1 < 0)) ((s, 1, 1)) (cond (decide (a1 < 32)) (cond (decide (a2 < 0)) ((s, 1, 1)) (cond (decide (a2 < 32)) (((q_sL s 172 (vp_updL (s.2.2 172) 0 (((s.1 32) ((((32 * a2) + a1) &&& 1023).toNatClampNeg)).toInt64))), 0, 0)) ((s, 1, 1)))) ((s, 1, 1)))
set_option maxHeartbeats 4000000 in
theorem dzt_X14_64_236 (z L : Nat) (xs : Nat → Int32) (s : q_S) (c n : Nat) (a1 : Int32) (a2 : Int32) : q_Ca (q_TBs z L xs) 3 14 [.ref 64, .int a1, .int a2, .ref 236] (q_kX s c n) ((q_oEX c n) (dz_X14_64_236 s a1 a2)) := by
  refine q_CaT_of (φ := (q_oEX c n)) (Nat.le_of_ble_eq_true rfl) ?_
  unfold dz_X14_64_236
  refine q_RT_seg (g2 := (5, [(0, .ref 64), (1, .int a1), (2, .int a2), (3, .ref 236)], [.int a2, .int a1, .ref 64, .int 0, .ref 236], (q_kX s c n))) 5 (fun _ _ => rfl) ?_
  cases h787 : decide (a1 < 0) with
  | true =>
    refine q_RT_cT ?_
    refine q_RT_callH (E := "java/lang/IndexOutOfBoundsException") (tg := 15) (i := 4) (h2 := (q_kX s (c + 1) (n + 6))) rfl rfl ?_ rfl ?_
    · refine q_Ca_of (Nat.le_of_ble_eq_true rfl) ?_
      refine q_Ru_seg (g2 := (3, [(0, .ref 64), (1, .int a1), (2, .int a2)], [.int 32, .int a1], (q_kX s c n))) 2 (fun _ _ => rfl) ?_
      refine q_Ru_callX (E := "java/lang/IndexOutOfBoundsException") (h2 := (q_kX s (c + 1) (n + 6))) rfl rfl ?_
      refine q_Ca_of (Nat.le_of_ble_eq_true rfl) ?_
      refine q_Ru_seg (g2 := (1, [(0, .int a1), (1, .int 32)], [.int a1], (q_kX s c n))) 1 (fun _ _ => rfl) ?_
      refine q_Ru_rsT (g2 := (9, [(0, .int a1), (1, .int 32)], [], (q_kX s c n))) rfl rfl h787 ?_
      exact q_Ru_thr rfl rfl
    show q_RT _ _ _ (15, [(0, .ref 64), (1, .int a1), (2, .int a2), (3, .ref 236)], [], (q_kX s (c + 1) (n + 6))) _ _
    refine q_RT_seg (g2 := (16, [(0, .ref 64), (1, .int a1), (2, .int a2), (3, .ref 236)], [.int 1], (q_kX s (c + 1) (n + 6)))) 1 (fun _ _ => rfl) ?_
    exact q_RT_ret rfl rfl rfl
  | false =>
    refine q_RT_cF ?_
    cases h788 : decide (a1 < 32) with
    | true =>
      refine q_RT_cT ?_
      cases h789 : decide (a2 < 0) with
      | true =>
        refine q_RT_cT ?_
        refine q_RT_callH (E := "java/lang/IndexOutOfBoundsException") (tg := 15) (i := 4) (h2 := (q_kX s (c + 1) (n + 6))) rfl rfl ?_ rfl ?_
        · refine q_Ca_of (Nat.le_of_ble_eq_true rfl) ?_
          refine q_Ru_seg (g2 := (3, [(0, .ref 64), (1, .int a1), (2, .int a2)], [.int 32, .int a1], (q_kX s c n))) 2 (fun _ _ => rfl) ?_
          refine q_Ru_call (v := none) (h2 := (q_kX s c n)) rfl rfl ?_ ?_
          · refine q_Ca_of (Nat.le_of_ble_eq_true rfl) ?_
            refine q_Ru_seg (g2 := (1, [(0, .int a1), (1, .int 32)], [.int a1], (q_kX s c n))) 1 (fun _ _ => rfl) ?_
            refine q_Ru_rsF (g2 := (4, [(0, .int a1), (1, .int 32)], [], (q_kX s c n))) rfl rfl h787 ?_
            refine q_Ru_seg (g2 := (6, [(0, .int a1), (1, .int 32)], [.int 32, .int a1], (q_kX s c n))) 2 (fun _ _ => rfl) ?_
            refine q_Ru_rsT (g2 := (19, [(0, .int a1), (1, .int 32)], [], (q_kX s c n))) rfl rfl h788 ?_
            exact q_Ru_ret rfl rfl
          show q_Ru _ _ _ (6, [(0, .ref 64), (1, .int a1), (2, .int a2)], [], (q_kX s c n)) _
          refine q_Ru_seg (g2 := (9, [(0, .ref 64), (1, .int a1), (2, .int a2)], [.int 32, .int a2], (q_kX s c n))) 2 (fun _ _ => rfl) ?_
          refine q_Ru_callX (E := "java/lang/IndexOutOfBoundsException") (h2 := (q_kX s (c + 1) (n + 6))) rfl rfl ?_
          refine q_Ca_of (Nat.le_of_ble_eq_true rfl) ?_
          refine q_Ru_seg (g2 := (1, [(0, .int a2), (1, .int 32)], [.int a2], (q_kX s c n))) 1 (fun _ _ => rfl) ?_
          refine q_Ru_rsT (g2 := (9, [(0, .int a2), (1, .int 32)], [], (q_kX s c n))) rfl rfl h789 ?_
          exact q_Ru_thr rfl rfl
        show q_RT _ _ _ (15, [(0, .ref 64), (1, .int a1), (2, .int a2), (3, .ref 236)], [], (q_kX s (c + 1) (n + 6))) _ _
        refine q_RT_seg (g2 := (16, [(0, .ref 64), (1, .int a1), (2, .int a2), (3, .ref 236)], [.int 1], (q_kX s (c + 1) (n + 6)))) 1 (fun _ _ => rfl) ?_
        exact q_RT_ret rfl rfl rfl
      | false =>
        refine q_RT_cF ?_
        cases h790 : decide (a2 < 32) with
        | true =>
          refine q_RT_cT ?_
          refine q_RT_call (v := (some (.int ((s.1 32) ((((32 * a2) + a1) &&& 1023).toNatClampNeg))))) (h2 := (q_kX s c n)) rfl rfl ?_ ?_
          · refine q_Ca_of (Nat.le_of_ble_eq_true rfl) ?_
            refine q_Ru_seg (g2 := (3, [(0, .ref 64), (1, .int a1), (2, .int a2)], [.int 32, .int a1], (q_kX s c n))) 2 (fun _ _ => rfl) ?_
            refine q_Ru_call (v := none) (h2 := (q_kX s c n)) rfl rfl ?_ ?_
            · refine q_Ca_of (Nat.le_of_ble_eq_true rfl) ?_
              refine q_Ru_seg (g2 := (1, [(0, .int a1), (1, .int 32)], [.int a1], (q_kX s c n))) 1 (fun _ _ => rfl) ?_
              refine q_Ru_rsF (g2 := (4, [(0, .int a1), (1, .int 32)], [], (q_kX s c n))) rfl rfl h787 ?_
              refine q_Ru_seg (g2 := (6, [(0, .int a1), (1, .int 32)], [.int 32, .int a1], (q_kX s c n))) 2 (fun _ _ => rfl) ?_
              refine q_Ru_rsT (g2 := (19, [(0, .int a1), (1, .int 32)], [], (q_kX s c n))) rfl rfl h788 ?_
              exact q_Ru_ret rfl rfl
            show q_Ru _ _ _ (6, [(0, .ref 64), (1, .int a1), (2, .int a2)], [], (q_kX s c n)) _
            refine q_Ru_seg (g2 := (9, [(0, .ref 64), (1, .int a1), (2, .int a2)], [.int 32, .int a2], (q_kX s c n))) 2 (fun _ _ => rfl) ?_
            refine q_Ru_call (v := none) (h2 := (q_kX s c n)) rfl rfl ?_ ?_
            · refine q_Ca_of (Nat.le_of_ble_eq_true rfl) ?_
              refine q_Ru_seg (g2 := (1, [(0, .int a2), (1, .int 32)], [.int a2], (q_kX s c n))) 1 (fun _ _ => rfl) ?_
              refine q_Ru_rsF (g2 := (4, [(0, .int a2), (1, .int 32)], [], (q_kX s c n))) rfl rfl h789 ?_
              refine q_Ru_seg (g2 := (6, [(0, .int a2), (1, .int 32)], [.int 32, .int a2], (q_kX s c n))) 2 (fun _ _ => rfl) ?_
              refine q_Ru_rsT (g2 := (19, [(0, .int a2), (1, .int 32)], [], (q_kX s c n))) rfl rfl h790 ?_
              exact q_Ru_ret rfl rfl
            show q_Ru _ _ _ (12, [(0, .ref 64), (1, .int a1), (2, .int a2)], [], (q_kX s c n)) _
            refine q_Ru_seg (g2 := (29, [(0, .ref 64), (1, .int a1), (2, .int a2)], [.int (((32 * a2) + a1) &&& 1023), .ref 96], (q_kX s c n))) 10 (fun _ _ => rfl) ?_
            refine q_Ru_rsT (g2 := (30, [(0, .ref 64), (1, .int a1), (2, .int a2)], [.int ((s.1 32) ((((32 * a2) + a1) &&& 1023).toNatClampNeg))], (q_kX s c n))) rfl rfl (q_in_bd (x := ((32 * a2) + a1) &&& 1023) (n := 1024) (U := 1023) (L := 0) (q_and_lo ((32 * a2) + a1) 1023) (q_and_hi ((32 * a2) + a1) 1023 1023)) ?_
            exact q_Ru_ret rfl rfl
          show q_RT _ _ _ (8, [(0, .ref 64), (1, .int a1), (2, .int a2), (3, .ref 236)], [.int ((s.1 32) ((((32 * a2) + a1) &&& 1023).toNatClampNeg)), .int 0, .ref 236], (q_kX s c n)) _ _
          refine q_RT_seg (g2 := (9, [(0, .ref 64), (1, .int a1), (2, .int a2), (3, .ref 236)], [.long (((s.1 32) ((((32 * a2) + a1) &&& 1023).toNatClampNeg)).toInt64), .int 0, .ref 236], (q_kX s c n))) 1 (fun _ _ => rfl) ?_
          refine q_RT_rsT (g2 := (10, [(0, .ref 64), (1, .int a1), (2, .int a2), (3, .ref 236)], [], (q_kX (q_sL s 172 (vp_updL (s.2.2 172) 0 (((s.1 32) ((((32 * a2) + a1) &&& 1023).toNatClampNeg)).toInt64))) c n))) rfl q_wX172 rfl ?_
          refine q_RT_seg (g2 := (18, [(0, .ref 64), (1, .int a1), (2, .int a2), (3, .ref 236)], [.int 0], (q_kX (q_sL s 172 (vp_updL (s.2.2 172) 0 (((s.1 32) ((((32 * a2) + a1) &&& 1023).toNatClampNeg)).toInt64))) c n))) 2 (fun _ _ => rfl) ?_
          exact q_RT_ret rfl rfl rfl
        | false =>
          refine q_RT_cF ?_
          refine q_RT_callH (E := "java/lang/IndexOutOfBoundsException") (tg := 15) (i := 4) (h2 := (q_kX s (c + 1) (n + 6))) rfl rfl ?_ rfl ?_
          · refine q_Ca_of (Nat.le_of_ble_eq_true rfl) ?_
            refine q_Ru_seg (g2 := (3, [(0, .ref 64), (1, .int a1), (2, .int a2)], [.int 32, .int a1], (q_kX s c n))) 2 (fun _ _ => rfl) ?_
            refine q_Ru_call (v := none) (h2 := (q_kX s c n)) rfl rfl ?_ ?_
            · refine q_Ca_of (Nat.le_of_ble_eq_true rfl) ?_
              refine q_Ru_seg (g2 := (1, [(0, .int a1), (1, .int 32)], [.int a1], (q_kX s c n))) 1 (fun _ _ => rfl) ?_
              refine q_Ru_rsF (g2 := (4, [(0, .int a1), (1, .int 32)], [], (q_kX s c n))) rfl rfl h787 ?_
              refine q_Ru_seg (g2 := (6, [(0, .int a1), (1, .int 32)], [.int 32, .int a1], (q_kX s c n))) 2 (fun _ _ => rfl) ?_
              refine q_Ru_rsT (g2 := (19, [(0, .int a1), (1, .int 32)], [], (q_kX s c n))) rfl rfl h788 ?_
              exact q_Ru_ret rfl rfl
            show q_Ru _ _ _ (6, [(0, .ref 64), (1, .int a1), (2, .int a2)], [], (q_kX s c n)) _
            refine q_Ru_seg (g2 := (9, [(0, .ref 64), (1, .int a1), (2, .int a2)], [.int 32, .int a2], (q_kX s c n))) 2 (fun _ _ => rfl) ?_
            refine q_Ru_callX (E := "java/lang/IndexOutOfBoundsException") (h2 := (q_kX s (c + 1) (n + 6))) rfl rfl ?_
            refine q_Ca_of (Nat.le_of_ble_eq_true rfl) ?_
            refine q_Ru_seg (g2 := (1, [(0, .int a2), (1, .int 32)], [.int a2], (q_kX s c n))) 1 (fun _ _ => rfl) ?_
            refine q_Ru_rsF (g2 := (4, [(0, .int a2), (1, .int 32)], [], (q_kX s c n))) rfl rfl h789 ?_
            refine q_Ru_seg (g2 := (6, [(0, .int a2), (1, .int 32)], [.int 32, .int a2], (q_kX s c n))) 2 (fun _ _ => rfl) ?_
            refine q_Ru_rsF (g2 := (9, [(0, .int a2), (1, .int 32)], [], (q_kX s c n))) rfl rfl h790 ?_
            exact q_Ru_thr rfl rfl
          show q_RT _ _ _ (15, [(0, .ref 64), (1, .int a1), (2, .int a2), (3, .ref 236)], [], (q_kX s (c + 1) (n + 6))) _ _
          refine q_RT_seg (g2 := (16, [(0, .ref 64), (1, .int a1), (2, .int a2), (3, .ref 236)], [.int 1], (q_kX s (c + 1) (n + 6)))) 1 (fun _ _ => rfl) ?_
          exact q_RT_ret rfl rfl rfl
    | false =>
      refine q_RT_cF ?_
      refine q_RT_callH (E := "java/lang/IndexOutOfBoundsException") (tg := 15) (i := 4) (h2 := (q_kX s (c + 1) (n + 6))) rfl rfl ?_ rfl ?_
      · refine q_Ca_of (Nat.le_of_ble_eq_true rfl) ?_
        refine q_Ru_seg (g2 := (3, [(0, .ref 64), (1, .int a1), (2, .int a2)], [.int 32, .int a1], (q_kX s c n))) 2 (fun _ _ => rfl) ?_
        refine q_Ru_callX (E := "java/lang/IndexOutOfBoundsException") (h2 := (q_kX s (c + 1) (n + 6))) rfl rfl ?_
        refine q_Ca_of (Nat.le_of_ble_eq_true rfl) ?_
        refine q_Ru_seg (g2 := (1, [(0, .int a1), (1, .int 32)], [.int a1], (q_kX s c n))) 1 (fun _ _ => rfl) ?_
        refine q_Ru_rsF (g2 := (4, [(0, .int a1), (1, .int 32)], [], (q_kX s c n))) rfl rfl h787 ?_
        refine q_Ru_seg (g2 := (6, [(0, .int a1), (1, .int 32)], [.int 32, .int a1], (q_kX s c n))) 2 (fun _ _ => rfl) ?_
        refine q_Ru_rsF (g2 := (9, [(0, .int a1), (1, .int 32)], [], (q_kX s c n))) rfl rfl h788 ?_
        exact q_Ru_thr rfl rfl
      show q_RT _ _ _ (15, [(0, .ref 64), (1, .int a1), (2, .int a2), (3, .ref 236)], [], (q_kX s (c + 1) (n + 6))) _ _
      refine q_RT_seg (g2 := (16, [(0, .ref 64), (1, .int a1), (2, .int a2), (3, .ref 236)], [.int 1], (q_kX s (c + 1) (n + 6)))) 1 (fun _ _ => rfl) ?_
      exact q_RT_ret rfl rfl rfl
def dz_X15_64_236 (s : q_S) (a1 : Int32) (a2 : Int32) : Option (q_S × Int32 × Nat) :=
  cond (decide (a1 < 0)) (some (s, 1, 1)) (cond (decide (a1 < 32)) (cond (decide (a2 < 0)) (some (s, 1, 1)) (cond (decide (a2 < 32)) ((dz_N108_65_96 (q_vw 32 1 73 s) a1 a2).bind fun r603 => some ((q_sL (q_pt 32 3 1 73 s r603.1) 172 (vp_updL ((q_pt 32 3 1 73 s r603.1).2.2 172) 0 r603.2.toInt64)), 0, 0)) (some (s, 1, 1)))) (some (s, 1, 1)))
set_option maxHeartbeats 4000000 in
theorem dzt_X15_64_236 (z L : Nat) (xs : Nat → Int32) (s : q_S) (c n : Nat) (a1 : Int32) (a2 : Int32) (x : q_S × Int32 × Nat) (h : dz_X15_64_236 s a1 a2 = some x) : q_Ca (q_TBs z L xs) 7 15 [.ref 64, .int a1, .int a2, .ref 236] (q_kX s c n) ((q_oEX c n) x) := by
  refine q_CaP_of (φ := (q_oEX c n)) (Nat.le_of_ble_eq_true rfl) ?_ h
  clear h
  unfold dz_X15_64_236
  refine q_RP_seg (g2 := (5, [(0, .ref 64), (1, .int a1), (2, .int a2), (3, .ref 236)], [.int a2, .int a1, .ref 64, .int 0, .ref 236], (q_kX s c n))) 5 (fun _ _ => rfl) ?_
  cases h795 : decide (a1 < 0) with
  | true =>
    refine q_RP_cT ?_
    refine q_RP_callH (E := "java/lang/IndexOutOfBoundsException") (tg := 15) (i := 4) (h2 := (q_kX s (c + 1) (n + 6))) rfl rfl ?_ rfl ?_
    · refine q_Ca_of (Nat.le_of_ble_eq_true rfl) ?_
      refine q_Ru_seg (g2 := (3, [(0, .ref 64), (1, .int a1), (2, .int a2)], [.int 32, .int a1], (q_kX s c n))) 2 (fun _ _ => rfl) ?_
      refine q_Ru_callX (E := "java/lang/IndexOutOfBoundsException") (h2 := (q_kX s (c + 1) (n + 6))) rfl rfl ?_
      refine q_Ca_of (Nat.le_of_ble_eq_true rfl) ?_
      refine q_Ru_seg (g2 := (1, [(0, .int a1), (1, .int 32)], [.int a1], (q_kX s c n))) 1 (fun _ _ => rfl) ?_
      refine q_Ru_rsT (g2 := (9, [(0, .int a1), (1, .int 32)], [], (q_kX s c n))) rfl rfl h795 ?_
      exact q_Ru_thr rfl rfl
    show q_RP _ _ _ (15, [(0, .ref 64), (1, .int a1), (2, .int a2), (3, .ref 236)], [], (q_kX s (c + 1) (n + 6))) _ _
    refine q_RP_seg (g2 := (16, [(0, .ref 64), (1, .int a1), (2, .int a2), (3, .ref 236)], [.int 1], (q_kX s (c + 1) (n + 6)))) 1 (fun _ _ => rfl) ?_
    exact q_RP_ret rfl rfl rfl
  | false =>
    refine q_RP_cF ?_
    cases h796 : decide (a1 < 32) with
    | true =>
      refine q_RP_cT ?_
      cases h797 : decide (a2 < 0) with
      | true =>
        refine q_RP_cT ?_
        refine q_RP_callH (E := "java/lang/IndexOutOfBoundsException") (tg := 15) (i := 4) (h2 := (q_kX s (c + 1) (n + 6))) rfl rfl ?_ rfl ?_
        · refine q_Ca_of (Nat.le_of_ble_eq_true rfl) ?_
          refine q_Ru_seg (g2 := (3, [(0, .ref 64), (1, .int a1), (2, .int a2)], [.int 32, .int a1], (q_kX s c n))) 2 (fun _ _ => rfl) ?_
          refine q_Ru_call (v := none) (h2 := (q_kX s c n)) rfl rfl ?_ ?_
          · refine q_Ca_of (Nat.le_of_ble_eq_true rfl) ?_
            refine q_Ru_seg (g2 := (1, [(0, .int a1), (1, .int 32)], [.int a1], (q_kX s c n))) 1 (fun _ _ => rfl) ?_
            refine q_Ru_rsF (g2 := (4, [(0, .int a1), (1, .int 32)], [], (q_kX s c n))) rfl rfl h795 ?_
            refine q_Ru_seg (g2 := (6, [(0, .int a1), (1, .int 32)], [.int 32, .int a1], (q_kX s c n))) 2 (fun _ _ => rfl) ?_
            refine q_Ru_rsT (g2 := (19, [(0, .int a1), (1, .int 32)], [], (q_kX s c n))) rfl rfl h796 ?_
            exact q_Ru_ret rfl rfl
          show q_Ru _ _ _ (6, [(0, .ref 64), (1, .int a1), (2, .int a2)], [], (q_kX s c n)) _
          refine q_Ru_seg (g2 := (9, [(0, .ref 64), (1, .int a1), (2, .int a2)], [.int 32, .int a2], (q_kX s c n))) 2 (fun _ _ => rfl) ?_
          refine q_Ru_callX (E := "java/lang/IndexOutOfBoundsException") (h2 := (q_kX s (c + 1) (n + 6))) rfl rfl ?_
          refine q_Ca_of (Nat.le_of_ble_eq_true rfl) ?_
          refine q_Ru_seg (g2 := (1, [(0, .int a2), (1, .int 32)], [.int a2], (q_kX s c n))) 1 (fun _ _ => rfl) ?_
          refine q_Ru_rsT (g2 := (9, [(0, .int a2), (1, .int 32)], [], (q_kX s c n))) rfl rfl h797 ?_
          exact q_Ru_thr rfl rfl
        show q_RP _ _ _ (15, [(0, .ref 64), (1, .int a1), (2, .int a2), (3, .ref 236)], [], (q_kX s (c + 1) (n + 6))) _ _
        refine q_RP_seg (g2 := (16, [(0, .ref 64), (1, .int a1), (2, .int a2), (3, .ref 236)], [.int 1], (q_kX s (c + 1) (n + 6)))) 1 (fun _ _ => rfl) ?_
        exact q_RP_ret rfl rfl rfl
      | false =>
        refine q_RP_cF ?_
        cases h798 : decide (a2 < 32) with
        | true =>
          refine q_RP_cT ?_
          refine q_RP_bd fun r603 er603 => ?_
          refine q_RP_call (v := (some (.int r603.2))) (h2 := (q_kX (q_pt 32 3 1 73 s r603.1) c n)) rfl rfl ?_ ?_
          · refine q_Ca_of (Nat.le_of_ble_eq_true rfl) ?_
            refine q_Ru_seg (g2 := (3, [(0, .ref 64), (1, .int a1), (2, .int a2)], [.int 32, .int a1], (q_kX s c n))) 2 (fun _ _ => rfl) ?_
            refine q_Ru_call (v := none) (h2 := (q_kX s c n)) rfl rfl ?_ ?_
            · refine q_Ca_of (Nat.le_of_ble_eq_true rfl) ?_
              refine q_Ru_seg (g2 := (1, [(0, .int a1), (1, .int 32)], [.int a1], (q_kX s c n))) 1 (fun _ _ => rfl) ?_
              refine q_Ru_rsF (g2 := (4, [(0, .int a1), (1, .int 32)], [], (q_kX s c n))) rfl rfl h795 ?_
              refine q_Ru_seg (g2 := (6, [(0, .int a1), (1, .int 32)], [.int 32, .int a1], (q_kX s c n))) 2 (fun _ _ => rfl) ?_
              refine q_Ru_rsT (g2 := (19, [(0, .int a1), (1, .int 32)], [], (q_kX s c n))) rfl rfl h796 ?_
              exact q_Ru_ret rfl rfl
            show q_Ru _ _ _ (6, [(0, .ref 64), (1, .int a1), (2, .int a2)], [], (q_kX s c n)) _
            refine q_Ru_seg (g2 := (9, [(0, .ref 64), (1, .int a1), (2, .int a2)], [.int 32, .int a2], (q_kX s c n))) 2 (fun _ _ => rfl) ?_
            refine q_Ru_call (v := none) (h2 := (q_kX s c n)) rfl rfl ?_ ?_
            · refine q_Ca_of (Nat.le_of_ble_eq_true rfl) ?_
              refine q_Ru_seg (g2 := (1, [(0, .int a2), (1, .int 32)], [.int a2], (q_kX s c n))) 1 (fun _ _ => rfl) ?_
              refine q_Ru_rsF (g2 := (4, [(0, .int a2), (1, .int 32)], [], (q_kX s c n))) rfl rfl h797 ?_
              refine q_Ru_seg (g2 := (6, [(0, .int a2), (1, .int 32)], [.int 32, .int a2], (q_kX s c n))) 2 (fun _ _ => rfl) ?_
              refine q_Ru_rsT (g2 := (19, [(0, .int a2), (1, .int 32)], [], (q_kX s c n))) rfl rfl h798 ?_
              exact q_Ru_ret rfl rfl
            show q_Ru _ _ _ (12, [(0, .ref 64), (1, .int a1), (2, .int a2)], [], (q_kX s c n)) _
            refine q_Ru_seg (g2 := (25, [(0, .ref 64), (1, .int a1), (2, .int a2)], [.ref 137, .int a2, .int a1, .ref 66], (q_kX s c n))) 7 (fun _ _ => rfl) ?_
            refine q_Ru_call (v := (some (.int r603.2))) (h2 := (q_kX (q_pt 32 3 1 73 s r603.1) c n)) rfl rfl ?_ ?_
            · exact (q_emNX_1 rfl (fun _ => rfl) ((dzt_N108_65_96 (q_vw 32 1 73 s) c n a1 a2 r603 er603).tb q_TB0_le)).le (Nat.le_of_ble_eq_true rfl)
            show q_Ru _ _ _ (28, [(0, .ref 64), (1, .int a1), (2, .int a2)], [.int r603.2], (q_kX (q_pt 32 3 1 73 s r603.1) c n)) _
            exact q_Ru_ret rfl rfl
          show q_RP _ _ _ (8, [(0, .ref 64), (1, .int a1), (2, .int a2), (3, .ref 236)], [.int r603.2, .int 0, .ref 236], (q_kX (q_pt 32 3 1 73 s r603.1) c n)) _ _
          refine q_RP_seg (g2 := (9, [(0, .ref 64), (1, .int a1), (2, .int a2), (3, .ref 236)], [.long r603.2.toInt64, .int 0, .ref 236], (q_kX (q_pt 32 3 1 73 s r603.1) c n))) 1 (fun _ _ => rfl) ?_
          refine q_RP_rsT (g2 := (10, [(0, .ref 64), (1, .int a1), (2, .int a2), (3, .ref 236)], [], (q_kX (q_sL (q_pt 32 3 1 73 s r603.1) 172 (vp_updL ((q_pt 32 3 1 73 s r603.1).2.2 172) 0 r603.2.toInt64)) c n))) rfl q_wX172 rfl ?_
          refine q_RP_seg (g2 := (18, [(0, .ref 64), (1, .int a1), (2, .int a2), (3, .ref 236)], [.int 0], (q_kX (q_sL (q_pt 32 3 1 73 s r603.1) 172 (vp_updL ((q_pt 32 3 1 73 s r603.1).2.2 172) 0 r603.2.toInt64)) c n))) 2 (fun _ _ => rfl) ?_
          exact q_RP_ret rfl rfl rfl
        | false =>
          refine q_RP_cF ?_
          refine q_RP_callH (E := "java/lang/IndexOutOfBoundsException") (tg := 15) (i := 4) (h2 := (q_kX s (c + 1) (n + 6))) rfl rfl ?_ rfl ?_
          · refine q_Ca_of (Nat.le_of_ble_eq_true rfl) ?_
            refine q_Ru_seg (g2 := (3, [(0, .ref 64), (1, .int a1), (2, .int a2)], [.int 32, .int a1], (q_kX s c n))) 2 (fun _ _ => rfl) ?_
            refine q_Ru_call (v := none) (h2 := (q_kX s c n)) rfl rfl ?_ ?_
            · refine q_Ca_of (Nat.le_of_ble_eq_true rfl) ?_
              refine q_Ru_seg (g2 := (1, [(0, .int a1), (1, .int 32)], [.int a1], (q_kX s c n))) 1 (fun _ _ => rfl) ?_
              refine q_Ru_rsF (g2 := (4, [(0, .int a1), (1, .int 32)], [], (q_kX s c n))) rfl rfl h795 ?_
              refine q_Ru_seg (g2 := (6, [(0, .int a1), (1, .int 32)], [.int 32, .int a1], (q_kX s c n))) 2 (fun _ _ => rfl) ?_
              refine q_Ru_rsT (g2 := (19, [(0, .int a1), (1, .int 32)], [], (q_kX s c n))) rfl rfl h796 ?_
              exact q_Ru_ret rfl rfl
            show q_Ru _ _ _ (6, [(0, .ref 64), (1, .int a1), (2, .int a2)], [], (q_kX s c n)) _
            refine q_Ru_seg (g2 := (9, [(0, .ref 64), (1, .int a1), (2, .int a2)], [.int 32, .int a2], (q_kX s c n))) 2 (fun _ _ => rfl) ?_
            refine q_Ru_callX (E := "java/lang/IndexOutOfBoundsException") (h2 := (q_kX s (c + 1) (n + 6))) rfl rfl ?_
            refine q_Ca_of (Nat.le_of_ble_eq_true rfl) ?_
            refine q_Ru_seg (g2 := (1, [(0, .int a2), (1, .int 32)], [.int a2], (q_kX s c n))) 1 (fun _ _ => rfl) ?_
            refine q_Ru_rsF (g2 := (4, [(0, .int a2), (1, .int 32)], [], (q_kX s c n))) rfl rfl h797 ?_
            refine q_Ru_seg (g2 := (6, [(0, .int a2), (1, .int 32)], [.int 32, .int a2], (q_kX s c n))) 2 (fun _ _ => rfl) ?_
            refine q_Ru_rsF (g2 := (9, [(0, .int a2), (1, .int 32)], [], (q_kX s c n))) rfl rfl h798 ?_
            exact q_Ru_thr rfl rfl
          show q_RP _ _ _ (15, [(0, .ref 64), (1, .int a1), (2, .int a2), (3, .ref 236)], [], (q_kX s (c + 1) (n + 6))) _ _
          refine q_RP_seg (g2 := (16, [(0, .ref 64), (1, .int a1), (2, .int a2), (3, .ref 236)], [.int 1], (q_kX s (c + 1) (n + 6)))) 1 (fun _ _ => rfl) ?_
          exact q_RP_ret rfl rfl rfl
    | false =>
      refine q_RP_cF ?_
      refine q_RP_callH (E := "java/lang/IndexOutOfBoundsException") (tg := 15) (i := 4) (h2 := (q_kX s (c + 1) (n + 6))) rfl rfl ?_ rfl ?_
      · refine q_Ca_of (Nat.le_of_ble_eq_true rfl) ?_
        refine q_Ru_seg (g2 := (3, [(0, .ref 64), (1, .int a1), (2, .int a2)], [.int 32, .int a1], (q_kX s c n))) 2 (fun _ _ => rfl) ?_
        refine q_Ru_callX (E := "java/lang/IndexOutOfBoundsException") (h2 := (q_kX s (c + 1) (n + 6))) rfl rfl ?_
        refine q_Ca_of (Nat.le_of_ble_eq_true rfl) ?_
        refine q_Ru_seg (g2 := (1, [(0, .int a1), (1, .int 32)], [.int a1], (q_kX s c n))) 1 (fun _ _ => rfl) ?_
        refine q_Ru_rsF (g2 := (4, [(0, .int a1), (1, .int 32)], [], (q_kX s c n))) rfl rfl h795 ?_
        refine q_Ru_seg (g2 := (6, [(0, .int a1), (1, .int 32)], [.int 32, .int a1], (q_kX s c n))) 2 (fun _ _ => rfl) ?_
        refine q_Ru_rsF (g2 := (9, [(0, .int a1), (1, .int 32)], [], (q_kX s c n))) rfl rfl h796 ?_
        exact q_Ru_thr rfl rfl
      show q_RP _ _ _ (15, [(0, .ref 64), (1, .int a1), (2, .int a2), (3, .ref 236)], [], (q_kX s (c + 1) (n + 6))) _ _
      refine q_RP_seg (g2 := (16, [(0, .ref 64), (1, .int a1), (2, .int a2), (3, .ref 236)], [.int 1], (q_kX s (c + 1) (n + 6)))) 1 (fun _ _ => rfl) ?_
      exact q_RP_ret rfl rfl rfl
def dz_X16_64_236 (s : q_S) (a1 : Int32) : q_S × Int32 × Nat :=
  cond (decide (a1 < 0)) ((s, 1, 1)) (cond (decide (a1 < 40)) (((q_sL s 172 (vp_updL (s.2.2 172) 0 (((s.1 31) (a1.toNatClampNeg)).toInt64))), 0, 0)) ((s, 1, 1)))
set_option maxHeartbeats 4000000 in
theorem dzt_X16_64_236 (z L : Nat) (xs : Nat → Int32) (s : q_S) (c n : Nat) (a1 : Int32) : q_Ca (q_TBs z L xs) 3 16 [.ref 64, .int a1, .ref 236] (q_kX s c n) ((q_oEX c n) (dz_X16_64_236 s a1)) := by
  refine q_CaT_of (φ := (q_oEX c n)) (Nat.le_of_ble_eq_true rfl) ?_
  unfold dz_X16_64_236
  refine q_RT_seg (g2 := (4, [(0, .ref 64), (1, .int a1), (2, .ref 236)], [.int a1, .ref 64, .int 0, .ref 236], (q_kX s c n))) 4 (fun _ _ => rfl) ?_
  cases h799 : decide (a1 < 0) with
  | true =>
    refine q_RT_cT ?_
    refine q_RT_callH (E := "java/lang/IndexOutOfBoundsException") (tg := 13) (i := 3) (h2 := (q_kX s (c + 1) (n + 6))) rfl rfl ?_ rfl ?_
    · refine q_Ca_of (Nat.le_of_ble_eq_true rfl) ?_
      refine q_Ru_seg (g2 := (3, [(0, .ref 64), (1, .int a1)], [.int 40, .int a1], (q_kX s c n))) 2 (fun _ _ => rfl) ?_
      refine q_Ru_callX (E := "java/lang/IndexOutOfBoundsException") (h2 := (q_kX s (c + 1) (n + 6))) rfl rfl ?_
      refine q_Ca_of (Nat.le_of_ble_eq_true rfl) ?_
      refine q_Ru_seg (g2 := (1, [(0, .int a1), (1, .int 40)], [.int a1], (q_kX s c n))) 1 (fun _ _ => rfl) ?_
      refine q_Ru_rsT (g2 := (9, [(0, .int a1), (1, .int 40)], [], (q_kX s c n))) rfl rfl h799 ?_
      exact q_Ru_thr rfl rfl
    show q_RT _ _ _ (13, [(0, .ref 64), (1, .int a1), (2, .ref 236)], [], (q_kX s (c + 1) (n + 6))) _ _
    refine q_RT_seg (g2 := (14, [(0, .ref 64), (1, .int a1), (2, .ref 236)], [.int 1], (q_kX s (c + 1) (n + 6)))) 1 (fun _ _ => rfl) ?_
    exact q_RT_ret rfl rfl rfl
  | false =>
    refine q_RT_cF ?_
    cases h800 : decide (a1 < 40) with
    | true =>
      refine q_RT_cT ?_
      refine q_RT_call (v := (some (.int ((s.1 31) (a1.toNatClampNeg))))) (h2 := (q_kX s c n)) rfl rfl ?_ ?_
      · refine q_Ca_of (Nat.le_of_ble_eq_true rfl) ?_
        refine q_Ru_seg (g2 := (3, [(0, .ref 64), (1, .int a1)], [.int 40, .int a1], (q_kX s c n))) 2 (fun _ _ => rfl) ?_
        refine q_Ru_call (v := none) (h2 := (q_kX s c n)) rfl rfl ?_ ?_
        · refine q_Ca_of (Nat.le_of_ble_eq_true rfl) ?_
          refine q_Ru_seg (g2 := (1, [(0, .int a1), (1, .int 40)], [.int a1], (q_kX s c n))) 1 (fun _ _ => rfl) ?_
          refine q_Ru_rsF (g2 := (4, [(0, .int a1), (1, .int 40)], [], (q_kX s c n))) rfl rfl h799 ?_
          refine q_Ru_seg (g2 := (6, [(0, .int a1), (1, .int 40)], [.int 40, .int a1], (q_kX s c n))) 2 (fun _ _ => rfl) ?_
          refine q_Ru_rsT (g2 := (19, [(0, .int a1), (1, .int 40)], [], (q_kX s c n))) rfl rfl h800 ?_
          exact q_Ru_ret rfl rfl
        show q_Ru _ _ _ (6, [(0, .ref 64), (1, .int a1)], [], (q_kX s c n)) _
        refine q_Ru_seg (g2 := (17, [(0, .ref 64), (1, .int a1)], [.int a1, .ref 95], (q_kX s c n))) 5 (fun _ _ => rfl) ?_
        refine q_Ru_rsT (g2 := (18, [(0, .ref 64), (1, .int a1)], [.int ((s.1 31) (a1.toNatClampNeg))], (q_kX s c n))) rfl rfl (q_in_bd (x := a1) (n := 40) (U := 39) (L := 0) (q_lo1 h799) (q_hi1 h800)) ?_
        exact q_Ru_ret rfl rfl
      show q_RT _ _ _ (7, [(0, .ref 64), (1, .int a1), (2, .ref 236)], [.int ((s.1 31) (a1.toNatClampNeg)), .int 0, .ref 236], (q_kX s c n)) _ _
      refine q_RT_seg (g2 := (8, [(0, .ref 64), (1, .int a1), (2, .ref 236)], [.long (((s.1 31) (a1.toNatClampNeg)).toInt64), .int 0, .ref 236], (q_kX s c n))) 1 (fun _ _ => rfl) ?_
      refine q_RT_rsT (g2 := (9, [(0, .ref 64), (1, .int a1), (2, .ref 236)], [], (q_kX (q_sL s 172 (vp_updL (s.2.2 172) 0 (((s.1 31) (a1.toNatClampNeg)).toInt64))) c n))) rfl q_wX172 rfl ?_
      refine q_RT_seg (g2 := (16, [(0, .ref 64), (1, .int a1), (2, .ref 236)], [.int 0], (q_kX (q_sL s 172 (vp_updL (s.2.2 172) 0 (((s.1 31) (a1.toNatClampNeg)).toInt64))) c n))) 2 (fun _ _ => rfl) ?_
      exact q_RT_ret rfl rfl rfl
    | false =>
      refine q_RT_cF ?_
      refine q_RT_callH (E := "java/lang/IndexOutOfBoundsException") (tg := 13) (i := 3) (h2 := (q_kX s (c + 1) (n + 6))) rfl rfl ?_ rfl ?_
      · refine q_Ca_of (Nat.le_of_ble_eq_true rfl) ?_
        refine q_Ru_seg (g2 := (3, [(0, .ref 64), (1, .int a1)], [.int 40, .int a1], (q_kX s c n))) 2 (fun _ _ => rfl) ?_
        refine q_Ru_callX (E := "java/lang/IndexOutOfBoundsException") (h2 := (q_kX s (c + 1) (n + 6))) rfl rfl ?_
        refine q_Ca_of (Nat.le_of_ble_eq_true rfl) ?_
        refine q_Ru_seg (g2 := (1, [(0, .int a1), (1, .int 40)], [.int a1], (q_kX s c n))) 1 (fun _ _ => rfl) ?_
        refine q_Ru_rsF (g2 := (4, [(0, .int a1), (1, .int 40)], [], (q_kX s c n))) rfl rfl h799 ?_
        refine q_Ru_seg (g2 := (6, [(0, .int a1), (1, .int 40)], [.int 40, .int a1], (q_kX s c n))) 2 (fun _ _ => rfl) ?_
        refine q_Ru_rsF (g2 := (9, [(0, .int a1), (1, .int 40)], [], (q_kX s c n))) rfl rfl h800 ?_
        exact q_Ru_thr rfl rfl
      show q_RT _ _ _ (13, [(0, .ref 64), (1, .int a1), (2, .ref 236)], [], (q_kX s (c + 1) (n + 6))) _ _
      refine q_RT_seg (g2 := (14, [(0, .ref 64), (1, .int a1), (2, .ref 236)], [.int 1], (q_kX s (c + 1) (n + 6)))) 1 (fun _ _ => rfl) ?_
      exact q_RT_ret rfl rfl rfl
def dz_X17_64_236 (s : q_S) (a1 : Int32) : q_S × Int32 × Nat :=
  cond (decide (a1 < 0)) ((s, 1, 1)) (cond (decide (a1 < 3)) (((q_sL s 172 (vp_updL (s.2.2 172) 0 (((s.1 28) (a1.toNatClampNeg)).toInt64))), 0, 0)) ((s, 1, 1)))
set_option maxHeartbeats 4000000 in
theorem dzt_X17_64_236 (z L : Nat) (xs : Nat → Int32) (s : q_S) (c n : Nat) (a1 : Int32) : q_Ca (q_TBs z L xs) 3 17 [.ref 64, .int a1, .ref 236] (q_kX s c n) ((q_oEX c n) (dz_X17_64_236 s a1)) := by
  refine q_CaT_of (φ := (q_oEX c n)) (Nat.le_of_ble_eq_true rfl) ?_
  unfold dz_X17_64_236
  refine q_RT_seg (g2 := (4, [(0, .ref 64), (1, .int a1), (2, .ref 236)], [.int a1, .ref 64, .int 0, .ref 236], (q_kX s c n))) 4 (fun _ _ => rfl) ?_
  cases h801 : decide (a1 < 0) with
  | true =>
    refine q_RT_cT ?_
    refine q_RT_callH (E := "java/lang/IndexOutOfBoundsException") (tg := 13) (i := 3) (h2 := (q_kX s (c + 1) (n + 6))) rfl rfl ?_ rfl ?_
    · refine q_Ca_of (Nat.le_of_ble_eq_true rfl) ?_
      refine q_Ru_seg (g2 := (2, [(0, .ref 64), (1, .int a1)], [.int 3, .int a1], (q_kX s c n))) 2 (fun _ _ => rfl) ?_
      refine q_Ru_callX (E := "java/lang/IndexOutOfBoundsException") (h2 := (q_kX s (c + 1) (n + 6))) rfl rfl ?_
      refine q_Ca_of (Nat.le_of_ble_eq_true rfl) ?_
      refine q_Ru_seg (g2 := (1, [(0, .int a1), (1, .int 3)], [.int a1], (q_kX s c n))) 1 (fun _ _ => rfl) ?_
      refine q_Ru_rsT (g2 := (9, [(0, .int a1), (1, .int 3)], [], (q_kX s c n))) rfl rfl h801 ?_
      exact q_Ru_thr rfl rfl
    show q_RT _ _ _ (13, [(0, .ref 64), (1, .int a1), (2, .ref 236)], [], (q_kX s (c + 1) (n + 6))) _ _
    refine q_RT_seg (g2 := (14, [(0, .ref 64), (1, .int a1), (2, .ref 236)], [.int 1], (q_kX s (c + 1) (n + 6)))) 1 (fun _ _ => rfl) ?_
    exact q_RT_ret rfl rfl rfl
  | false =>
    refine q_RT_cF ?_
    cases h802 : decide (a1 < 3) with
    | true =>
      refine q_RT_cT ?_
      refine q_RT_call (v := (some (.int ((s.1 28) (a1.toNatClampNeg))))) (h2 := (q_kX s c n)) rfl rfl ?_ ?_
      · refine q_Ca_of (Nat.le_of_ble_eq_true rfl) ?_
        refine q_Ru_seg (g2 := (2, [(0, .ref 64), (1, .int a1)], [.int 3, .int a1], (q_kX s c n))) 2 (fun _ _ => rfl) ?_
        refine q_Ru_call (v := none) (h2 := (q_kX s c n)) rfl rfl ?_ ?_
        · refine q_Ca_of (Nat.le_of_ble_eq_true rfl) ?_
          refine q_Ru_seg (g2 := (1, [(0, .int a1), (1, .int 3)], [.int a1], (q_kX s c n))) 1 (fun _ _ => rfl) ?_
          refine q_Ru_rsF (g2 := (4, [(0, .int a1), (1, .int 3)], [], (q_kX s c n))) rfl rfl h801 ?_
          refine q_Ru_seg (g2 := (6, [(0, .int a1), (1, .int 3)], [.int 3, .int a1], (q_kX s c n))) 2 (fun _ _ => rfl) ?_
          refine q_Ru_rsT (g2 := (19, [(0, .int a1), (1, .int 3)], [], (q_kX s c n))) rfl rfl h802 ?_
          exact q_Ru_ret rfl rfl
        show q_Ru _ _ _ (5, [(0, .ref 64), (1, .int a1)], [], (q_kX s c n)) _
        refine q_Ru_seg (g2 := (16, [(0, .ref 64), (1, .int a1)], [.int a1, .ref 92], (q_kX s c n))) 5 (fun _ _ => rfl) ?_
        refine q_Ru_rsT (g2 := (17, [(0, .ref 64), (1, .int a1)], [.int ((s.1 28) (a1.toNatClampNeg))], (q_kX s c n))) rfl rfl (q_in_bd (x := a1) (n := 3) (U := 2) (L := 0) (q_lo1 h801) (q_hi1 h802)) ?_
        exact q_Ru_ret rfl rfl
      show q_RT _ _ _ (7, [(0, .ref 64), (1, .int a1), (2, .ref 236)], [.int ((s.1 28) (a1.toNatClampNeg)), .int 0, .ref 236], (q_kX s c n)) _ _
      refine q_RT_seg (g2 := (8, [(0, .ref 64), (1, .int a1), (2, .ref 236)], [.long (((s.1 28) (a1.toNatClampNeg)).toInt64), .int 0, .ref 236], (q_kX s c n))) 1 (fun _ _ => rfl) ?_
      refine q_RT_rsT (g2 := (9, [(0, .ref 64), (1, .int a1), (2, .ref 236)], [], (q_kX (q_sL s 172 (vp_updL (s.2.2 172) 0 (((s.1 28) (a1.toNatClampNeg)).toInt64))) c n))) rfl q_wX172 rfl ?_
      refine q_RT_seg (g2 := (16, [(0, .ref 64), (1, .int a1), (2, .ref 236)], [.int 0], (q_kX (q_sL s 172 (vp_updL (s.2.2 172) 0 (((s.1 28) (a1.toNatClampNeg)).toInt64))) c n))) 2 (fun _ _ => rfl) ?_
      exact q_RT_ret rfl rfl rfl
    | false =>
      refine q_RT_cF ?_
      refine q_RT_callH (E := "java/lang/IndexOutOfBoundsException") (tg := 13) (i := 3) (h2 := (q_kX s (c + 1) (n + 6))) rfl rfl ?_ rfl ?_
      · refine q_Ca_of (Nat.le_of_ble_eq_true rfl) ?_
        refine q_Ru_seg (g2 := (2, [(0, .ref 64), (1, .int a1)], [.int 3, .int a1], (q_kX s c n))) 2 (fun _ _ => rfl) ?_
        refine q_Ru_callX (E := "java/lang/IndexOutOfBoundsException") (h2 := (q_kX s (c + 1) (n + 6))) rfl rfl ?_
        refine q_Ca_of (Nat.le_of_ble_eq_true rfl) ?_
        refine q_Ru_seg (g2 := (1, [(0, .int a1), (1, .int 3)], [.int a1], (q_kX s c n))) 1 (fun _ _ => rfl) ?_
        refine q_Ru_rsF (g2 := (4, [(0, .int a1), (1, .int 3)], [], (q_kX s c n))) rfl rfl h801 ?_
        refine q_Ru_seg (g2 := (6, [(0, .int a1), (1, .int 3)], [.int 3, .int a1], (q_kX s c n))) 2 (fun _ _ => rfl) ?_
        refine q_Ru_rsF (g2 := (9, [(0, .int a1), (1, .int 3)], [], (q_kX s c n))) rfl rfl h802 ?_
        exact q_Ru_thr rfl rfl
      show q_RT _ _ _ (13, [(0, .ref 64), (1, .int a1), (2, .ref 236)], [], (q_kX s (c + 1) (n + 6))) _ _
      refine q_RT_seg (g2 := (14, [(0, .ref 64), (1, .int a1), (2, .ref 236)], [.int 1], (q_kX s (c + 1) (n + 6)))) 1 (fun _ _ => rfl) ?_
      exact q_RT_ret rfl rfl rfl
