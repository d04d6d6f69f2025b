def dz_M274_64 (s : q_S) (a1 : Int32) : Option (q_S × Int32) :=
  (dz_M256_64 s).bind fun r2 => (dz_M256_64 r2.1).bind fun r3 => q_let (dz_M213 r3.1 ((r2.2 + (256 * r3.2)) + a1)) fun r4 => some (r3.1, r4)
set_option maxHeartbeats 4000000 in
theorem dzt_M274_64 (s : q_S) (c n : Nat) (a1 : Int32) (x : q_S × Int32) (h : dz_M274_64 s a1 = some x) : q_Ca q_TB0 2 273 [.ref 64, .int a1] (q_kM s c n) ((q_oIM c n) x) := by
  refine q_CaP_of (φ := (q_oIM c n)) (Nat.le_of_ble_eq_true rfl) ?_ h
  clear h
  unfold dz_M274_64
  refine q_RP_seg (g2 := (1, [(0, .ref 64), (1, .int a1)], [.ref 64], (q_kM s c n))) 1 (fun _ _ => rfl) ?_
  refine q_RP_bd fun r2 er2 => ?_
  refine q_RP_call (v := (some (.int r2.2))) (h2 := (q_kM r2.1 c n)) rfl rfl ((dzt_M256_64 s c n r2 er2).le (Nat.le_of_ble_eq_true rfl)) ?_
  show q_RP _ _ _ (4, [(0, .ref 64), (1, .int a1)], [.int r2.2], (q_kM r2.1 c n)) _ _
  refine q_RP_seg (g2 := (10, [(2, .int r2.2), (0, .ref 64), (1, .int a1)], [.ref 64, .int 256, .int r2.2], (q_kM r2.1 c n))) 4 (fun _ _ => rfl) ?_
  refine q_RP_bd fun r3 er3 => ?_
  refine q_RP_call (v := (some (.int r3.2))) (h2 := (q_kM r3.1 c n)) rfl rfl ((dzt_M256_64 r2.1 c n r3 er3).le (Nat.le_of_ble_eq_true rfl)) ?_
  show q_RP _ _ _ (13, [(2, .int r2.2), (0, .ref 64), (1, .int a1)], [.int r3.2, .int 256, .int r2.2], (q_kM r3.1 c n)) _ _
  refine q_RP_seg (g2 := (17, [(2, .int r2.2), (0, .ref 64), (1, .int a1)], [.int ((r2.2 + (256 * r3.2)) + a1)], (q_kM r3.1 c n))) 4 (fun _ _ => rfl) ?_
  refine q_RP_call (v := (some (.int (dz_M213 r3.1 ((r2.2 + (256 * r3.2)) + a1))))) (h2 := (q_kM r3.1 c n)) rfl rfl ((dzt_M213 r3.1 c n ((r2.2 + (256 * r3.2)) + a1)).le (Nat.le_of_ble_eq_true rfl)) ?_
  generalize dz_M213 r3.1 ((r2.2 + (256 * r3.2)) + a1) = r4
  refine q_RP_let ?_
  show q_RP _ _ _ (20, [(2, .int r2.2), (0, .ref 64), (1, .int a1)], [.int r4], (q_kM r3.1 c n)) _ _
  exact q_RP_ret rfl rfl rfl
def dz_M275_64_43 (s : q_S) (v1 : Int32) (v3 : Int32) : Option (q_S) :=
  cond (decide (v1 = 159)) ((dz_M247_64 s v3).bind fun r6 => (dz_M247_64 r6.1 (((v3 / 256) * 256) + ((v3 + 1) - (v3 + 1) / 256 * 256))).bind fun r7 => q_let (dz_M213 r7.1 (r6.2 + (256 * r7.2))) fun r8 => some (q_sA r7.1 14 (upd (r7.1.1 14) 4 r8))) (some (q_sA s 14 (upd (s.1 14) 4 v3)))
set_option maxHeartbeats 4000000 in
theorem dzt_M275_64_43 (c n : Nat) (s : q_S) (v1 : Int32) (v3 : Int32) : q_RP q_TB0 6 274 (43, [(0, .ref 64), (1, .int v1), (3, .int v3)], [], (q_kM s c n)) (q_oSM c n) (dz_M275_64_43 s v1 v3) := by
  unfold dz_M275_64_43
  refine q_RP_seg (g2 := (52, [(0, .ref 64), (1, .int v1), (3, .int v3)], [.int 159, .int v1, .int 4, .ref 78], (q_kM s c n))) 5 (fun _ _ => rfl) ?_
  cases h2 : decide (v1 = 159) with
  | true =>
    refine q_RP_cT ?_
    refine q_RP_rsF (g2 := (55, [(0, .ref 64), (1, .int v1), (3, .int v3)], [.int 4, .ref 78], (q_kM s c n))) rfl rfl (q_d_neT h2) ?_
    refine q_RP_seg (g2 := (57, [(0, .ref 64), (1, .int v1), (3, .int v3)], [.int v3, .ref 64, .int 4, .ref 78], (q_kM s c n))) 2 (fun _ _ => rfl) ?_
    refine q_RP_bd fun r6 er6 => ?_
    refine q_RP_call (v := (some (.int r6.2))) (h2 := (q_kM r6.1 c n)) rfl rfl ((dzt_M247_64 s c n v3 r6 er6).le (Nat.le_of_ble_eq_true rfl)) ?_
    show q_RP _ _ _ (60, [(0, .ref 64), (1, .int v1), (3, .int v3)], [.int r6.2, .int 4, .ref 78], (q_kM r6.1 c n)) _ _
    refine q_RP_seg (g2 := (81, [(0, .ref 64), (1, .int v1), (3, .int v3)], [.int (((v3 / 256) * 256) + ((v3 + 1) - (v3 + 1) / 256 * 256)), .ref 64, .int 256, .int r6.2, .int 4, .ref 78], (q_kM r6.1 c n))) 13 (fun _ _ => rfl) ?_
    refine q_RP_bd fun r7 er7 => ?_
    refine q_RP_call (v := (some (.int r7.2))) (h2 := (q_kM r7.1 c n)) rfl rfl ((dzt_M247_64 r6.1 c n (((v3 / 256) * 256) + ((v3 + 1) - (v3 + 1) / 256 * 256)) r7 er7).le (Nat.le_of_ble_eq_true rfl)) ?_
    show q_RP _ _ _ (84, [(0, .ref 64), (1, .int v1), (3, .int v3)], [.int r7.2, .int 256, .int r6.2, .int 4, .ref 78], (q_kM r7.1 c n)) _ _
    refine q_RP_seg (g2 := (86, [(0, .ref 64), (1, .int v1), (3, .int v3)], [.int (r6.2 + (256 * r7.2)), .int 4, .ref 78], (q_kM r7.1 c n))) 2 (fun _ _ => rfl) ?_
    refine q_RP_call (v := (some (.int (dz_M213 r7.1 (r6.2 + (256 * r7.2)))))) (h2 := (q_kM r7.1 c n)) rfl rfl ((dzt_M213 r7.1 c n (r6.2 + (256 * r7.2))).le (Nat.le_of_ble_eq_true rfl)) ?_
    generalize dz_M213 r7.1 (r6.2 + (256 * r7.2)) = r8
    refine q_RP_let ?_
    show q_RP _ _ _ (89, [(0, .ref 64), (1, .int v1), (3, .int v3)], [.int r8, .int 4, .ref 78], (q_kM r7.1 c n)) _ _
    refine q_RP_seg (g2 := (94, [(0, .ref 64), (1, .int v1), (3, .int v3)], [], (q_kM (q_sA r7.1 14 (upd (r7.1.1 14) 4 r8)) c n))) 2 (fun _ _ => rfl) ?_
    exact q_RP_ret rfl rfl rfl
  | false =>
    refine q_RP_cF ?_
    refine q_RP_rsT (g2 := (92, [(0, .ref 64), (1, .int v1), (3, .int v3)], [.int 4, .ref 78], (q_kM s c n))) rfl rfl (q_d_neF h2) ?_
    refine q_RP_seg (g2 := (94, [(0, .ref 64), (1, .int v1), (3, .int v3)], [], (q_kM (q_sA s 14 (upd (s.1 14) 4 v3)) c n))) 2 (fun _ _ => rfl) ?_
    exact q_RP_ret rfl rfl rfl
def dz_M275_64 (s : q_S) (a1 : Int32) (a2 : Int32) : Option (q_S) :=
  (dz_M248_64 s (a2 + 1)).bind fun r2 => cond (decide (a1 = 158)) (q_let (dz_M213 r2.1 (a2 + 2)) fun r3 => (dz_M255_64 r2.1 (r3 / 256)).bind fun r4 => (dz_M255_64 r4 (r3 - r3 / 256 * 256)).bind fun r5 => dz_M275_64_43 r5 a1 r2.2) (dz_M275_64_43 r2.1 a1 r2.2)
set_option maxHeartbeats 4000000 in
theorem dzt_M275_64 (s : q_S) (c n : Nat) (a1 : Int32) (a2 : Int32) (x : q_S) (h : dz_M275_64 s a1 a2 = some x) : q_Ca q_TB0 7 274 [.ref 64, .int a1, .int a2] (q_kM s c n) ((q_oSM c n) x) := by
  refine q_CaP_of (φ := (q_oSM c n)) (Nat.le_of_ble_eq_true rfl) ?_ h
  clear h
  unfold dz_M275_64
  refine q_RP_seg (g2 := (4, [(0, .ref 64), (1, .int a1), (2, .int a2)], [.int (a2 + 1), .ref 64], (q_kM s c n))) 4 (fun _ _ => rfl) ?_
  refine q_RP_bd fun r2 er2 => ?_
  refine q_RP_call (v := (some (.int r2.2))) (h2 := (q_kM r2.1 c n)) rfl rfl ((dzt_M248_64 s c n (a2 + 1) r2 er2).le (Nat.le_of_ble_eq_true rfl)) ?_
  show q_RP _ _ _ (7, [(0, .ref 64), (1, .int a1), (2, .int a2)], [.int r2.2], (q_kM r2.1 c n)) _ _
  refine q_RP_seg (g2 := (12, [(3, .int r2.2), (0, .ref 64), (1, .int a1), (2, .int a2)], [.int 158, .int a1], (q_kM r2.1 c n))) 3 (fun _ _ => rfl) ?_
  cases h1 : decide (a1 = 158) with
  | true =>
    refine q_RP_cT ?_
    refine q_RP_rsF (g2 := (15, [(3, .int r2.2), (0, .ref 64), (1, .int a1), (2, .int a2)], [], (q_kM r2.1 c n))) rfl rfl (q_d_neT h1) ?_
    refine q_RP_seg (g2 := (18, [(3, .int r2.2), (0, .ref 64), (1, .int a1), (2, .int a2)], [.int (a2 + 2)], (q_kM r2.1 c n))) 3 (fun _ _ => rfl) ?_
    refine q_RP_call (v := (some (.int (dz_M213 r2.1 (a2 + 2))))) (h2 := (q_kM r2.1 c n)) rfl rfl ((dzt_M213 r2.1 c n (a2 + 2)).le (Nat.le_of_ble_eq_true rfl)) ?_
    generalize dz_M213 r2.1 (a2 + 2) = r3
    refine q_RP_let ?_
    show q_RP _ _ _ (21, [(3, .int r2.2), (0, .ref 64), (1, .int a1), (2, .int a2)], [.int r3], (q_kM r2.1 c n)) _ _
    refine q_RP_seg (g2 := (30, [(4, .int r3), (3, .int r2.2), (0, .ref 64), (1, .int a1), (2, .int a2)], [.int (r3 / 256), .ref 64], (q_kM r2.1 c n))) 5 (fun _ _ => rfl) ?_
    refine q_RP_bd fun r4 er4 => ?_
    refine q_RP_call (v := none) (h2 := (q_kM r4 c n)) rfl rfl ((dzt_M255_64 r2.1 c n (r3 / 256) r4 er4).le (Nat.le_of_ble_eq_true rfl)) ?_
    show q_RP _ _ _ (33, [(4, .int r3), (3, .int r2.2), (0, .ref 64), (1, .int a1), (2, .int a2)], [], (q_kM r4 c n)) _ _
    refine q_RP_seg (g2 := (40, [(4, .int r3), (3, .int r2.2), (0, .ref 64), (1, .int a1), (2, .int a2)], [.int (r3 - r3 / 256 * 256), .ref 64], (q_kM r4 c n))) 4 (fun _ _ => rfl) ?_
    refine q_RP_bd fun r5 er5 => ?_
    refine q_RP_call (v := none) (h2 := (q_kM r5 c n)) rfl rfl ((dzt_M255_64 r4 c n (r3 - r3 / 256 * 256) r5 er5).le (Nat.le_of_ble_eq_true rfl)) ?_
    show q_RP _ _ _ (43, [(4, .int r3), (3, .int r2.2), (0, .ref 64), (1, .int a1), (2, .int a2)], [], (q_kM r5 c n)) _ _
    exact q_RP_xt (q_xt_mk (q_mn1 2 rfl (q_mn1 3 rfl (q_mn1 1 rfl q_mn0))) rfl) (dzt_M275_64_43 c n r5 a1 r2.2)
  | false =>
    refine q_RP_cF ?_
    refine q_RP_rsT (g2 := (43, [(3, .int r2.2), (0, .ref 64), (1, .int a1), (2, .int a2)], [], (q_kM r2.1 c n))) rfl rfl (q_d_neF h1) ?_
    exact q_RP_xt (q_xt_mk (q_mn1 1 rfl (q_mn1 2 rfl (q_mn1 0 rfl q_mn0))) rfl) (dzt_M275_64_43 c n r2.1 a1 r2.2)
def dz_M261_64 (s : q_S) (a1 : Int32) : q_S × Int32 :=
  cond (decide (a1 = 0)) (cond (decide (127 < a1)) (q_let ((q_sA s 15 (upd (s.1 15) 4 (vp_nar .boolean 1)))) fun r1 => ((q_sA r1 15 (upd (r1.1 15) 0 (vp_nar .boolean 1))), a1)) (q_let ((q_sA s 15 (upd (s.1 15) 4 (vp_nar .boolean 1)))) fun r2 => ((q_sA r2 15 (upd (r2.1 15) 0 (vp_nar .boolean 0))), a1))) (cond (decide (127 < a1)) (q_let ((q_sA s 15 (upd (s.1 15) 4 (vp_nar .boolean 0)))) fun r3 => ((q_sA r3 15 (upd (r3.1 15) 0 (vp_nar .boolean 1))), a1)) (q_let ((q_sA s 15 (upd (s.1 15) 4 (vp_nar .boolean 0)))) fun r4 => ((q_sA r4 15 (upd (r4.1 15) 0 (vp_nar .boolean 0))), a1)))
set_option maxHeartbeats 4000000 in
theorem dzt_M261_64 (s : q_S) (c n : Nat) (a1 : Int32) : q_Ca q_TB0 1 260 [.ref 64, .int a1] (q_kM s c n) ((q_oIM c n) (dz_M261_64 s a1)) := by
  refine q_CaT_of (φ := (q_oIM c n)) (Nat.le_of_ble_eq_true rfl) ?_
  unfold dz_M261_64
  refine q_RT_seg (g2 := (6, [(0, .ref 64), (1, .int a1)], [.int a1, .int 4, .ref 79], (q_kM s c n))) 4 (fun _ _ => rfl) ?_
  cases h1 : decide (a1 = 0) with
  | true =>
    refine q_RT_cT ?_
    refine q_RT_rsF (g2 := (9, [(0, .ref 64), (1, .int a1)], [.int 4, .ref 79], (q_kM s c n))) rfl rfl (q_d_neT h1) ?_
    refine q_RT_seg (g2 := (23, [(0, .ref 64), (1, .int a1)], [.int 127, .int a1, .int 0, .ref 79], (q_kM (q_sA s 15 (upd (s.1 15) 4 (vp_nar .boolean 1))) c n))) 8 (fun _ _ => rfl) ?_
    cases h2 : decide (127 < a1) with
    | true =>
      refine q_RT_cT ?_
      refine q_RT_rsF (g2 := (26, [(0, .ref 64), (1, .int a1)], [.int 0, .ref 79], (q_kM (q_sA s 15 (upd (s.1 15) 4 (vp_nar .boolean 1))) c n))) rfl rfl (q_d_geT h2) ?_
      refine q_RT_seg (g2 := (31, [(0, .ref 64), (1, .int a1)], [.int 1, .int 0, .ref 79], (q_kM (q_sA s 15 (upd (s.1 15) 4 (vp_nar .boolean 1))) c n))) 2 (fun _ _ => rfl) ?_
      generalize (q_sA s 15 (upd (s.1 15) 4 (vp_nar .boolean 1))) = r1
      refine q_RT_let ?_
      show q_RT _ _ _ (31, [(0, .ref 64), (1, .int a1)], [.int 1, .int 0, .ref 79], (q_kM r1 c n)) _ _
      refine q_RT_seg (g2 := (33, [(0, .ref 64), (1, .int a1)], [.int a1], (q_kM (q_sA r1 15 (upd (r1.1 15) 0 (vp_nar .boolean 1))) c n))) 2 (fun _ _ => rfl) ?_
      exact q_RT_ret rfl rfl rfl
    | false =>
      refine q_RT_cF ?_
      refine q_RT_rsT (g2 := (30, [(0, .ref 64), (1, .int a1)], [.int 0, .ref 79], (q_kM (q_sA s 15 (upd (s.1 15) 4 (vp_nar .boolean 1))) c n))) rfl rfl (q_d_geF h2) ?_
      refine q_RT_seg (g2 := (31, [(0, .ref 64), (1, .int a1)], [.int 0, .int 0, .ref 79], (q_kM (q_sA s 15 (upd (s.1 15) 4 (vp_nar .boolean 1))) c n))) 1 (fun _ _ => rfl) ?_
      generalize (q_sA s 15 (upd (s.1 15) 4 (vp_nar .boolean 1))) = r2
      refine q_RT_let ?_
      show q_RT _ _ _ (31, [(0, .ref 64), (1, .int a1)], [.int 0, .int 0, .ref 79], (q_kM r2 c n)) _ _
      refine q_RT_seg (g2 := (33, [(0, .ref 64), (1, .int a1)], [.int a1], (q_kM (q_sA r2 15 (upd (r2.1 15) 0 (vp_nar .boolean 0))) c n))) 2 (fun _ _ => rfl) ?_
      exact q_RT_ret rfl rfl rfl
  | false =>
    refine q_RT_cF ?_
    refine q_RT_rsT (g2 := (13, [(0, .ref 64), (1, .int a1)], [.int 4, .ref 79], (q_kM s c n))) rfl rfl (q_d_neF h1) ?_
    refine q_RT_seg (g2 := (23, [(0, .ref 64), (1, .int a1)], [.int 127, .int a1, .int 0, .ref 79], (q_kM (q_sA s 15 (upd (s.1 15) 4 (vp_nar .boolean 0))) c n))) 7 (fun _ _ => rfl) ?_
    cases h3 : decide (127 < a1) with
    | true =>
      refine q_RT_cT ?_
      refine q_RT_rsF (g2 := (26, [(0, .ref 64), (1, .int a1)], [.int 0, .ref 79], (q_kM (q_sA s 15 (upd (s.1 15) 4 (vp_nar .boolean 0))) c n))) rfl rfl (q_d_geT h3) ?_
      refine q_RT_seg (g2 := (31, [(0, .ref 64), (1, .int a1)], [.int 1, .int 0, .ref 79], (q_kM (q_sA s 15 (upd (s.1 15) 4 (vp_nar .boolean 0))) c n))) 2 (fun _ _ => rfl) ?_
      generalize (q_sA s 15 (upd (s.1 15) 4 (vp_nar .boolean 0))) = r3
      refine q_RT_let ?_
      show q_RT _ _ _ (31, [(0, .ref 64), (1, .int a1)], [.int 1, .int 0, .ref 79], (q_kM r3 c n)) _ _
      refine q_RT_seg (g2 := (33, [(0, .ref 64), (1, .int a1)], [.int a1], (q_kM (q_sA r3 15 (upd (r3.1 15) 0 (vp_nar .boolean 1))) c n))) 2 (fun _ _ => rfl) ?_
      exact q_RT_ret rfl rfl rfl
    | false =>
      refine q_RT_cF ?_
      refine q_RT_rsT (g2 := (30, [(0, .ref 64), (1, .int a1)], [.int 0, .ref 79], (q_kM (q_sA s 15 (upd (s.1 15) 4 (vp_nar .boolean 0))) c n))) rfl rfl (q_d_geF h3) ?_
      refine q_RT_seg (g2 := (31, [(0, .ref 64), (1, .int a1)], [.int 0, .int 0, .ref 79], (q_kM (q_sA s 15 (upd (s.1 15) 4 (vp_nar .boolean 0))) c n))) 1 (fun _ _ => rfl) ?_
      generalize (q_sA s 15 (upd (s.1 15) 4 (vp_nar .boolean 0))) = r4
      refine q_RT_let ?_
      show q_RT _ _ _ (31, [(0, .ref 64), (1, .int a1)], [.int 0, .int 0, .ref 79], (q_kM r4 c n)) _ _
      refine q_RT_seg (g2 := (33, [(0, .ref 64), (1, .int a1)], [.int a1], (q_kM (q_sA r4 15 (upd (r4.1 15) 0 (vp_nar .boolean 0))) c n))) 2 (fun _ _ => rfl) ?_
      exact q_RT_ret rfl rfl rfl
def dz_M262_64 (s : q_S) (a1 : Int32) (a2 : Int32) : Option (q_S) :=
  q_let (dz_M261_64 s a2) fun r2 => cond (q_in a1 24) (some (q_sA r2.1 14 (upd (r2.1.1 14) (a1.toNatClampNeg) r2.2))) none
set_option maxHeartbeats 4000000 in
theorem dzt_M262_64 (s : q_S) (c n : Nat) (a1 : Int32) (a2 : Int32) (x : q_S) (h : dz_M262_64 s a1 a2 = some x) : q_Ca q_TB0 2 261 [.ref 64, .int a1, .int a2] (q_kM s c n) ((q_oSM c n) x) := by
  refine q_CaP_of (φ := (q_oSM c n)) (Nat.le_of_ble_eq_true rfl) ?_ h
  clear h
  unfold dz_M262_64
  refine q_RP_seg (g2 := (7, [(0, .ref 64), (1, .int a1), (2, .int a2)], [.int a2, .ref 64, .int a1, .ref 78], (q_kM s c n))) 5 (fun _ _ => rfl) ?_
  refine q_RP_call (v := (some (.int (dz_M261_64 s a2).2))) (h2 := (q_kM (dz_M261_64 s a2).1 c n)) rfl rfl ((dzt_M261_64 s c n a2).le (Nat.le_of_ble_eq_true rfl)) ?_
  generalize dz_M261_64 s a2 = r2
  refine q_RP_let ?_
  show q_RP _ _ _ (10, [(0, .ref 64), (1, .int a1), (2, .int a2)], [.int r2.2, .int a1, .ref 78], (q_kM r2.1 c n)) _ _
  refine q_RP_as fun i1 => ?_
  refine q_RP_rsT (g2 := (11, [(0, .ref 64), (1, .int a1), (2, .int a2)], [], (q_kM (q_sA r2.1 14 (upd (r2.1.1 14) (a1.toNatClampNeg) r2.2)) c n))) rfl q_wM14 i1 ?_
  exact q_RP_ret rfl rfl rfl
def dz_M272_64 (s : q_S) (a1 : Int32) : Option (q_S) :=
  (dz_M257_64 s 5 1).bind fun r2 => cond (decide (a1 - a1 / 2 * 2 = 0)) (q_let (dz_M206 s ((s.1 14) 0) 7) fun r3 => cond r3 (cond (decide (a1 = 150)) ((dz_M262_64 (q_sA s 15 (upd (s.1 15) 5 (vp_nar .boolean 1))) 0 ((((s.1 14) 0) * 2) &&& 255)).bind fun r4 => some r4) (cond (decide (a1 = 151)) ((dz_M262_64 (q_sA s 15 (upd (s.1 15) 5 (vp_nar .boolean 1))) 0 (((s.1 14) 0) / 2)).bind fun r5 => some r5) (cond (decide (a1 = 152)) ((dz_M262_64 (q_sA s 15 (upd (s.1 15) 5 (vp_nar .boolean 1))) 0 (((((s.1 14) 0) * 2) + r2) &&& 255)).bind fun r6 => some r6) ((dz_M262_64 (q_sA s 15 (upd (s.1 15) 5 (vp_nar .boolean 1))) 0 ((((s.1 14) 0) / 2) + (128 * r2))).bind fun r7 => some r7)))) (cond (decide (a1 = 150)) ((dz_M262_64 (q_sA s 15 (upd (s.1 15) 5 (vp_nar .boolean 0))) 0 ((((s.1 14) 0) * 2) &&& 255)).bind fun r8 => some r8) (cond (decide (a1 = 151)) ((dz_M262_64 (q_sA s 15 (upd (s.1 15) 5 (vp_nar .boolean 0))) 0 (((s.1 14) 0) / 2)).bind fun r9 => some r9) (cond (decide (a1 = 152)) ((dz_M262_64 (q_sA s 15 (upd (s.1 15) 5 (vp_nar .boolean 0))) 0 (((((s.1 14) 0) * 2) + r2) &&& 255)).bind fun r10 => some r10) ((dz_M262_64 (q_sA s 15 (upd (s.1 15) 5 (vp_nar .boolean 0))) 0 ((((s.1 14) 0) / 2) + (128 * r2))).bind fun r11 => some r11))))) (q_let (dz_M206 s ((s.1 14) 0) 0) fun r12 => cond r12 (cond (decide (a1 = 150)) ((dz_M262_64 (q_sA s 15 (upd (s.1 15) 5 (vp_nar .boolean 1))) 0 ((((s.1 14) 0) * 2) &&& 255)).bind fun r13 => some r13) (cond (decide (a1 = 151)) ((dz_M262_64 (q_sA s 15 (upd (s.1 15) 5 (vp_nar .boolean 1))) 0 (((s.1 14) 0) / 2)).bind fun r14 => some r14) (cond (decide (a1 = 152)) ((dz_M262_64 (q_sA s 15 (upd (s.1 15) 5 (vp_nar .boolean 1))) 0 (((((s.1 14) 0) * 2) + r2) &&& 255)).bind fun r15 => some r15) ((dz_M262_64 (q_sA s 15 (upd (s.1 15) 5 (vp_nar .boolean 1))) 0 ((((s.1 14) 0) / 2) + (128 * r2))).bind fun r16 => some r16)))) (cond (decide (a1 = 150)) ((dz_M262_64 (q_sA s 15 (upd (s.1 15) 5 (vp_nar .boolean 0))) 0 ((((s.1 14) 0) * 2) &&& 255)).bind fun r17 => some r17) (cond (decide (a1 = 151)) ((dz_M262_64 (q_sA s 15 (upd (s.1 15) 5 (vp_nar .boolean 0))) 0 (((s.1 14) 0) / 2)).bind fun r18 => some r18) (cond (decide (a1 = 152)) ((dz_M262_64 (q_sA s 15 (upd (s.1 15) 5 (vp_nar .boolean 0))) 0 (((((s.1 14) 0) * 2) + r2) &&& 255)).bind fun r19 => some r19) ((dz_M262_64 (q_sA s 15 (upd (s.1 15) 5 (vp_nar .boolean 0))) 0 ((((s.1 14) 0) / 2) + (128 * r2))).bind fun r20 => some r20)))))
set_option maxHeartbeats 4000000 in
theorem dzt_M272_64 (s : q_S) (c n : Nat) (a1 : Int32) (x : q_S) (h : dz_M272_64 s a1 = some x) : q_Ca q_TB0 3 271 [.ref 64, .int a1] (q_kM s c n) ((q_oSM c n) x) := by
  refine q_CaP_of (φ := (q_oSM c n)) (Nat.le_of_ble_eq_true rfl) ?_ h
  clear h
  unfold dz_M272_64
  refine q_RP_seg (g2 := (6, [(0, .ref 64), (1, .int a1)], [.int ((s.1 14) 0)], (q_kM s c n))) 4 (fun _ _ => rfl) ?_
  refine q_RP_seg (g2 := (10, [(2, .int ((s.1 14) 0)), (0, .ref 64), (1, .int a1)], [.int 1, .int 5, .ref 64], (q_kM s c n))) 4 (fun _ _ => rfl) ?_
  refine q_RP_bd fun r2 er2 => ?_
  refine q_RP_call (v := (some (.int r2))) (h2 := (q_kM s c n)) rfl rfl ((dzt_M257_64 s c n 5 1 r2 er2).le (Nat.le_of_ble_eq_true rfl)) ?_
  show q_RP _ _ _ (13, [(2, .int ((s.1 14) 0)), (0, .ref 64), (1, .int a1)], [.int r2], (q_kM s c n)) _ _
  refine q_RP_seg (g2 := (23, [(3, .int r2), (2, .int ((s.1 14) 0)), (0, .ref 64), (1, .int a1)], [.int (a1 - a1 / 2 * 2), .int ((s.1 14) 0), .int 5, .ref 79], (q_kM s c n))) 8 (fun _ _ => rfl) ?_
  cases h1 : decide (a1 - a1 / 2 * 2 = 0) with
  | true =>
    refine q_RP_cT ?_
    refine q_RP_rsF (g2 := (26, [(3, .int r2), (2, .int ((s.1 14) 0)), (0, .ref 64), (1, .int a1)], [.int ((s.1 14) 0), .int 5, .ref 79], (q_kM s c n))) rfl rfl (q_d_neT h1) ?_
    refine q_RP_seg (g2 := (32, [(3, .int r2), (2, .int ((s.1 14) 0)), (0, .ref 64), (1, .int a1)], [.int 7, .int ((s.1 14) 0), .int 5, .ref 79], (q_kM s c n))) 2 (fun _ _ => rfl) ?_
    refine q_RP_call (v := (some (.int (q_b (dz_M206 s ((s.1 14) 0) 7))))) (h2 := (q_kM s c n)) rfl rfl ((dzt_M206 s c n ((s.1 14) 0) 7).le (Nat.le_of_ble_eq_true rfl)) ?_
    generalize dz_M206 s ((s.1 14) 0) 7 = r3
    refine q_RP_let ?_
    show q_RP _ _ _ (35, [(3, .int r2), (2, .int ((s.1 14) 0)), (0, .ref 64), (1, .int a1)], [.int (q_b r3), .int 5, .ref 79], (q_kM s c n)) _ _
    cases h2 : r3 with
    | true =>
      refine q_RP_cT ?_
      show q_RP _ _ _ (35, [(3, .int r2), (2, .int ((s.1 14) 0)), (0, .ref 64), (1, .int a1)], [.int 1, .int 5, .ref 79], (q_kM s c n)) _ _
      refine q_RP_seg (g2 := (42, [(3, .int r2), (2, .int ((s.1 14) 0)), (0, .ref 64), (1, .int a1)], [.int 150, .int a1, .int 0, .ref 64], (q_kM (q_sA s 15 (upd (s.1 15) 5 (vp_nar .boolean 1))) c n))) 5 (fun _ _ => rfl) ?_
      cases h3 : decide (a1 = 150) with
      | true =>
        refine q_RP_cT ?_
        refine q_RP_rsF (g2 := (45, [(3, .int r2), (2, .int ((s.1 14) 0)), (0, .ref 64), (1, .int a1)], [.int 0, .ref 64], (q_kM (q_sA s 15 (upd (s.1 15) 5 (vp_nar .boolean 1))) c n))) rfl rfl (q_d_neT h3) ?_
        refine q_RP_seg (g2 := (96, [(3, .int r2), (2, .int ((s.1 14) 0)), (0, .ref 64), (1, .int a1)], [.int ((((s.1 14) 0) * 2) &&& 255), .int 0, .ref 64], (q_kM (q_sA s 15 (upd (s.1 15) 5 (vp_nar .boolean 1))) c n))) 6 (fun _ _ => rfl) ?_
        refine q_RP_bd fun r4 er4 => ?_
        refine q_RP_call (v := none) (h2 := (q_kM r4 c n)) rfl rfl ((dzt_M262_64 (q_sA s 15 (upd (s.1 15) 5 (vp_nar .boolean 1))) c n 0 ((((s.1 14) 0) * 2) &&& 255) r4 er4).le (Nat.le_of_ble_eq_true rfl)) ?_
        show q_RP _ _ _ (99, [(3, .int r2), (2, .int ((s.1 14) 0)), (0, .ref 64), (1, .int a1)], [], (q_kM r4 c n)) _ _
        exact q_RP_ret rfl rfl rfl
      | false =>
        refine q_RP_cF ?_
        refine q_RP_rsT (g2 := (55, [(3, .int r2), (2, .int ((s.1 14) 0)), (0, .ref 64), (1, .int a1)], [.int 0, .ref 64], (q_kM (q_sA s 15 (upd (s.1 15) 5 (vp_nar .boolean 1))) c n))) rfl rfl (q_d_neF h3) ?_
        refine q_RP_seg (g2 := (59, [(3, .int r2), (2, .int ((s.1 14) 0)), (0, .ref 64), (1, .int a1)], [.int 151, .int a1, .int 0, .ref 64], (q_kM (q_sA s 15 (upd (s.1 15) 5 (vp_nar .boolean 1))) c n))) 2 (fun _ _ => rfl) ?_
        cases h4 : decide (a1 = 151) with
        | true =>
          refine q_RP_cT ?_
          refine q_RP_rsF (g2 := (62, [(3, .int r2), (2, .int ((s.1 14) 0)), (0, .ref 64), (1, .int a1)], [.int 0, .ref 64], (q_kM (q_sA s 15 (upd (s.1 15) 5 (vp_nar .boolean 1))) c n))) rfl rfl (q_d_neT h4) ?_
          refine q_RP_seg (g2 := (96, [(3, .int r2), (2, .int ((s.1 14) 0)), (0, .ref 64), (1, .int a1)], [.int (((s.1 14) 0) / 2), .int 0, .ref 64], (q_kM (q_sA s 15 (upd (s.1 15) 5 (vp_nar .boolean 1))) c n))) 4 (fun _ _ => rfl) ?_
          refine q_RP_bd fun r5 er5 => ?_
          refine q_RP_call (v := none) (h2 := (q_kM r5 c n)) rfl rfl ((dzt_M262_64 (q_sA s 15 (upd (s.1 15) 5 (vp_nar .boolean 1))) c n 0 (((s.1 14) 0) / 2) r5 er5).le (Nat.le_of_ble_eq_true rfl)) ?_
          show q_RP _ _ _ (99, [(3, .int r2), (2, .int ((s.1 14) 0)), (0, .ref 64), (1, .int a1)], [], (q_kM r5 c n)) _ _
          exact q_RP_ret rfl rfl rfl
        | false =>
          refine q_RP_cF ?_
          refine q_RP_rsT (g2 := (68, [(3, .int r2), (2, .int ((s.1 14) 0)), (0, .ref 64), (1, .int a1)], [.int 0, .ref 64], (q_kM (q_sA s 15 (upd (s.1 15) 5 (vp_nar .boolean 1))) c n))) rfl rfl (q_d_neF h4) ?_
          refine q_RP_seg (g2 := (72, [(3, .int r2), (2, .int ((s.1 14) 0)), (0, .ref 64), (1, .int a1)], [.int 152, .int a1, .int 0, .ref 64], (q_kM (q_sA s 15 (upd (s.1 15) 5 (vp_nar .boolean 1))) c n))) 2 (fun _ _ => rfl) ?_
          cases h5 : decide (a1 = 152) with
          | true =>
            refine q_RP_cT ?_
            refine q_RP_rsF (g2 := (75, [(3, .int r2), (2, .int ((s.1 14) 0)), (0, .ref 64), (1, .int a1)], [.int 0, .ref 64], (q_kM (q_sA s 15 (upd (s.1 15) 5 (vp_nar .boolean 1))) c n))) rfl rfl (q_d_neT h5) ?_
            refine q_RP_seg (g2 := (96, [(3, .int r2), (2, .int ((s.1 14) 0)), (0, .ref 64), (1, .int a1)], [.int (((((s.1 14) 0) * 2) + r2) &&& 255), .int 0, .ref 64], (q_kM (q_sA s 15 (upd (s.1 15) 5 (vp_nar .boolean 1))) c n))) 8 (fun _ _ => rfl) ?_
            refine q_RP_bd fun r6 er6 => ?_
            refine q_RP_call (v := none) (h2 := (q_kM r6 c n)) rfl rfl ((dzt_M262_64 (q_sA s 15 (upd (s.1 15) 5 (vp_nar .boolean 1))) c n 0 (((((s.1 14) 0) * 2) + r2) &&& 255) r6 er6).le (Nat.le_of_ble_eq_true rfl)) ?_
            show q_RP _ _ _ (99, [(3, .int r2), (2, .int ((s.1 14) 0)), (0, .ref 64), (1, .int a1)], [], (q_kM r6 c n)) _ _
            exact q_RP_ret rfl rfl rfl
          | false =>
            refine q_RP_cF ?_
            refine q_RP_rsT (g2 := (87, [(3, .int r2), (2, .int ((s.1 14) 0)), (0, .ref 64), (1, .int a1)], [.int 0, .ref 64], (q_kM (q_sA s 15 (upd (s.1 15) 5 (vp_nar .boolean 1))) c n))) rfl rfl (q_d_neF h5) ?_
            refine q_RP_seg (g2 := (96, [(3, .int r2), (2, .int ((s.1 14) 0)), (0, .ref 64), (1, .int a1)], [.int ((((s.1 14) 0) / 2) + (128 * r2)), .int 0, .ref 64], (q_kM (q_sA s 15 (upd (s.1 15) 5 (vp_nar .boolean 1))) c n))) 7 (fun _ _ => rfl) ?_
            refine q_RP_bd fun r7 er7 => ?_
            refine q_RP_call (v := none) (h2 := (q_kM r7 c n)) rfl rfl ((dzt_M262_64 (q_sA s 15 (upd (s.1 15) 5 (vp_nar .boolean 1))) c n 0 ((((s.1 14) 0) / 2) + (128 * r2)) r7 er7).le (Nat.le_of_ble_eq_true rfl)) ?_
            show q_RP _ _ _ (99, [(3, .int r2), (2, .int ((s.1 14) 0)), (0, .ref 64), (1, .int a1)], [], (q_kM r7 c n)) _ _
            exact q_RP_ret rfl rfl rfl
    | false =>
      refine q_RP_cF ?_
      show q_RP _ _ _ (35, [(3, .int r2), (2, .int ((s.1 14) 0)), (0, .ref 64), (1, .int a1)], [.int 0, .int 5, .ref 79], (q_kM s c n)) _ _
      refine q_RP_seg (g2 := (42, [(3, .int r2), (2, .int ((s.1 14) 0)), (0, .ref 64), (1, .int a1)], [.int 150, .int a1, .int 0, .ref 64], (q_kM (q_sA s 15 (upd (s.1 15) 5 (vp_nar .boolean 0))) c n))) 5 (fun _ _ => rfl) ?_
      cases h6 : decide (a1 = 150) with
      | true =>
        refine q_RP_cT ?_
        refine q_RP_rsF (g2 := (45, [(3, .int r2), (2, .int ((s.1 14) 0)), (0, .ref 64), (1, .int a1)], [.int 0, .ref 64], (q_kM (q_sA s 15 (upd (s.1 15) 5 (vp_nar .boolean 0))) c n))) rfl rfl (q_d_neT h6) ?_
        refine q_RP_seg (g2 := (96, [(3, .int r2), (2, .int ((s.1 14) 0)), (0, .ref 64), (1, .int a1)], [.int ((((s.1 14) 0) * 2) &&& 255), .int 0, .ref 64], (q_kM (q_sA s 15 (upd (s.1 15) 5 (vp_nar .boolean 0))) c n))) 6 (fun _ _ => rfl) ?_
        refine q_RP_bd fun r8 er8 => ?_
        refine q_RP_call (v := none) (h2 := (q_kM r8 c n)) rfl rfl ((dzt_M262_64 (q_sA s 15 (upd (s.1 15) 5 (vp_nar .boolean 0))) c n 0 ((((s.1 14) 0) * 2) &&& 255) r8 er8).le (Nat.le_of_ble_eq_true rfl)) ?_
        show q_RP _ _ _ (99, [(3, .int r2), (2, .int ((s.1 14) 0)), (0, .ref 64), (1, .int a1)], [], (q_kM r8 c n)) _ _
        exact q_RP_ret rfl rfl rfl
      | false =>
        refine q_RP_cF ?_
        refine q_RP_rsT (g2 := (55, [(3, .int r2), (2, .int ((s.1 14) 0)), (0, .ref 64), (1, .int a1)], [.int 0, .ref 64], (q_kM (q_sA s 15 (upd (s.1 15) 5 (vp_nar .boolean 0))) c n))) rfl rfl (q_d_neF h6) ?_
        refine q_RP_seg (g2 := (59, [(3, .int r2), (2, .int ((s.1 14) 0)), (0, .ref 64), (1, .int a1)], [.int 151, .int a1, .int 0, .ref 64], (q_kM (q_sA s 15 (upd (s.1 15) 5 (vp_nar .boolean 0))) c n))) 2 (fun _ _ => rfl) ?_
        cases h7 : decide (a1 = 151) with
        | true =>
          refine q_RP_cT ?_
          refine q_RP_rsF (g2 := (62, [(3, .int r2), (2, .int ((s.1 14) 0)), (0, .ref 64), (1, .int a1)], [.int 0, .ref 64], (q_kM (q_sA s 15 (upd (s.1 15) 5 (vp_nar .boolean 0))) c n))) rfl rfl (q_d_neT h7) ?_
          refine q_RP_seg (g2 := (96, [(3, .int r2), (2, .int ((s.1 14) 0)), (0, .ref 64), (1, .int a1)], [.int (((s.1 14) 0) / 2), .int 0, .ref 64], (q_kM (q_sA s 15 (upd (s.1 15) 5 (vp_nar .boolean 0))) c n))) 4 (fun _ _ => rfl) ?_
          refine q_RP_bd fun r9 er9 => ?_
          refine q_RP_call (v := none) (h2 := (q_kM r9 c n)) rfl rfl ((dzt_M262_64 (q_sA s 15 (upd (s.1 15) 5 (vp_nar .boolean 0))) c n 0 (((s.1 14) 0) / 2) r9 er9).le (Nat.le_of_ble_eq_true rfl)) ?_
          show q_RP _ _ _ (99, [(3, .int r2), (2, .int ((s.1 14) 0)), (0, .ref 64), (1, .int a1)], [], (q_kM r9 c n)) _ _
          exact q_RP_ret rfl rfl rfl
        | false =>
          refine q_RP_cF ?_
          refine q_RP_rsT (g2 := (68, [(3, .int r2), (2, .int ((s.1 14) 0)), (0, .ref 64), (1, .int a1)], [.int 0, .ref 64], (q_kM (q_sA s 15 (upd (s.1 15) 5 (vp_nar .boolean 0))) c n))) rfl rfl (q_d_neF h7) ?_
          refine q_RP_seg (g2 := (72, [(3, .int r2), (2, .int ((s.1 14) 0)), (0, .ref 64), (1, .int a1)], [.int 152, .int a1, .int 0, .ref 64], (q_kM (q_sA s 15 (upd (s.1 15) 5 (vp_nar .boolean 0))) c n))) 2 (fun _ _ => rfl) ?_
          cases h8 : decide (a1 = 152) with
          | true =>
            refine q_RP_cT ?_
            refine q_RP_rsF (g2 := (75, [(3, .int r2), (2, .int ((s.1 14) 0)), (0, .ref 64), (1, .int a1)], [.int 0, .ref 64], (q_kM (q_sA s 15 (upd (s.1 15) 5 (vp_nar .boolean 0))) c n))) rfl rfl (q_d_neT h8) ?_
            refine q_RP_seg (g2 := (96, [(3, .int r2), (2, .int ((s.1 14) 0)), (0, .ref 64), (1, .int a1)], [.int (((((s.1 14) 0) * 2) + r2) &&& 255), .int 0, .ref 64], (q_kM (q_sA s 15 (upd (s.1 15) 5 (vp_nar .boolean 0))) c n))) 8 (fun _ _ => rfl) ?_
            refine q_RP_bd fun r10 er10 => ?_
            refine q_RP_call (v := none) (h2 := (q_kM r10 c n)) rfl rfl ((dzt_M262_64 (q_sA s 15 (upd (s.1 15) 5 (vp_nar .boolean 0))) c n 0 (((((s.1 14) 0) * 2) + r2) &&& 255) r10 er10).le (Nat.le_of_ble_eq_true rfl)) ?_
            show q_RP _ _ _ (99, [(3, .int r2), (2, .int ((s.1 14) 0)), (0, .ref 64), (1, .int a1)], [], (q_kM r10 c n)) _ _
            exact q_RP_ret rfl rfl rfl
          | false =>
            refine q_RP_cF ?_
            refine q_RP_rsT (g2 := (87, [(3, .int r2), (2, .int ((s.1 14) 0)), (0, .ref 64), (1, .int a1)], [.int 0, .ref 64], (q_kM (q_sA s 15 (upd (s.1 15) 5 (vp_nar .boolean 0))) c n))) rfl rfl (q_d_neF h8) ?_
            refine q_RP_seg (g2 := (96, [(3, .int r2), (2, .int ((s.1 14) 0)), (0, .ref 64), (1, .int a1)], [.int ((((s.1 14) 0) / 2) + (128 * r2)), .int 0, .ref 64], (q_kM (q_sA s 15 (upd (s.1 15) 5 (vp_nar .boolean 0))) c n))) 7 (fun _ _ => rfl) ?_
            refine q_RP_bd fun r11 er11 => ?_
            refine q_RP_call (v := none) (h2 := (q_kM r11 c n)) rfl rfl ((dzt_M262_64 (q_sA s 15 (upd (s.1 15) 5 (vp_nar .boolean 0))) c n 0 ((((s.1 14) 0) / 2) + (128 * r2)) r11 er11).le (Nat.le_of_ble_eq_true rfl)) ?_
            show q_RP _ _ _ (99, [(3, .int r2), (2, .int ((s.1 14) 0)), (0, .ref 64), (1, .int a1)], [], (q_kM r11 c n)) _ _
            exact q_RP_ret rfl rfl rfl
  | false =>
    refine q_RP_cF ?_
    refine q_RP_rsT (g2 := (31, [(3, .int r2), (2, .int ((s.1 14) 0)), (0, .ref 64), (1, .int a1)], [.int ((s.1 14) 0), .int 5, .ref 79], (q_kM s c n))) rfl rfl (q_d_neF h1) ?_
    refine q_RP_seg (g2 := (32, [(3, .int r2), (2, .int ((s.1 14) 0)), (0, .ref 64), (1, .int a1)], [.int 0, .int ((s.1 14) 0), .int 5, .ref 79], (q_kM s c n))) 1 (fun _ _ => rfl) ?_
    refine q_RP_call (v := (some (.int (q_b (dz_M206 s ((s.1 14) 0) 0))))) (h2 := (q_kM s c n)) rfl rfl ((dzt_M206 s c n ((s.1 14) 0) 0).le (Nat.le_of_ble_eq_true rfl)) ?_
    generalize dz_M206 s ((s.1 14) 0) 0 = r12
    refine q_RP_let ?_
    show q_RP _ _ _ (35, [(3, .int r2), (2, .int ((s.1 14) 0)), (0, .ref 64), (1, .int a1)], [.int (q_b r12), .int 5, .ref 79], (q_kM s c n)) _ _
    cases h9 : r12 with
    | true =>
      refine q_RP_cT ?_
      show q_RP _ _ _ (35, [(3, .int r2), (2, .int ((s.1 14) 0)), (0, .ref 64), (1, .int a1)], [.int 1, .int 5, .ref 79], (q_kM s c n)) _ _
      refine q_RP_seg (g2 := (42, [(3, .int r2), (2, .int ((s.1 14) 0)), (0, .ref 64), (1, .int a1)], [.int 150, .int a1, .int 0, .ref 64], (q_kM (q_sA s 15 (upd (s.1 15) 5 (vp_nar .boolean 1))) c n))) 5 (fun _ _ => rfl) ?_
      cases h10 : decide (a1 = 150) with
      | true =>
        refine q_RP_cT ?_
        refine q_RP_rsF (g2 := (45, [(3, .int r2), (2, .int ((s.1 14) 0)), (0, .ref 64), (1, .int a1)], [.int 0, .ref 64], (q_kM (q_sA s 15 (upd (s.1 15) 5 (vp_nar .boolean 1))) c n))) rfl rfl (q_d_neT h10) ?_
        refine q_RP_seg (g2 := (96, [(3, .int r2), (2, .int ((s.1 14) 0)), (0, .ref 64), (1, .int a1)], [.int ((((s.1 14) 0) * 2) &&& 255), .int 0, .ref 64], (q_kM (q_sA s 15 (upd (s.1 15) 5 (vp_nar .boolean 1))) c n))) 6 (fun _ _ => rfl) ?_
        refine q_RP_bd fun r13 er13 => ?_
        refine q_RP_call (v := none) (h2 := (q_kM r13 c n)) rfl rfl ((dzt_M262_64 (q_sA s 15 (upd (s.1 15) 5 (vp_nar .boolean 1))) c n 0 ((((s.1 14) 0) * 2) &&& 255) r13 er13).le (Nat.le_of_ble_eq_true rfl)) ?_
        show q_RP _ _ _ (99, [(3, .int r2), (2, .int ((s.1 14) 0)), (0, .ref 64), (1, .int a1)], [], (q_kM r13 c n)) _ _
        exact q_RP_ret rfl rfl rfl
      | false =>
        refine q_RP_cF ?_
        refine q_RP_rsT (g2 := (55, [(3, .int r2), (2, .int ((s.1 14) 0)), (0, .ref 64), (1, .int a1)], [.int 0, .ref 64], (q_kM (q_sA s 15 (upd (s.1 15) 5 (vp_nar .boolean 1))) c n))) rfl rfl (q_d_neF h10) ?_
        refine q_RP_seg (g2 := (59, [(3, .int r2), (2, .int ((s.1 14) 0)), (0, .ref 64), (1, .int a1)], [.int 151, .int a1, .int 0, .ref 64], (q_kM (q_sA s 15 (upd (s.1 15) 5 (vp_nar .boolean 1))) c n))) 2 (fun _ _ => rfl) ?_
        cases h11 : decide (a1 = 151) with
        | true =>
          refine q_RP_cT ?_
          refine q_RP_rsF (g2 := (62, [(3, .int r2), (2, .int ((s.1 14) 0)), (0, .ref 64), (1, .int a1)], [.int 0, .ref 64], (q_kM (q_sA s 15 (upd (s.1 15) 5 (vp_nar .boolean 1))) c n))) rfl rfl (q_d_neT h11) ?_
          refine q_RP_seg (g2 := (96, [(3, .int r2), (2, .int ((s.1 14) 0)), (0, .ref 64), (1, .int a1)], [.int (((s.1 14) 0) / 2), .int 0, .ref 64], (q_kM (q_sA s 15 (upd (s.1 15) 5 (vp_nar .boolean 1))) c n))) 4 (fun _ _ => rfl) ?_
          refine q_RP_bd fun r14 er14 => ?_
          refine q_RP_call (v := none) (h2 := (q_kM r14 c n)) rfl rfl ((dzt_M262_64 (q_sA s 15 (upd (s.1 15) 5 (vp_nar .boolean 1))) c n 0 (((s.1 14) 0) / 2) r14 er14).le (Nat.le_of_ble_eq_true rfl)) ?_
          show q_RP _ _ _ (99, [(3, .int r2), (2, .int ((s.1 14) 0)), (0, .ref 64), (1, .int a1)], [], (q_kM r14 c n)) _ _
          exact q_RP_ret rfl rfl rfl
        | false =>
          refine q_RP_cF ?_
          refine q_RP_rsT (g2 := (68, [(3, .int r2), (2, .int ((s.1 14) 0)), (0, .ref 64), (1, .int a1)], [.int 0, .ref 64], (q_kM (q_sA s 15 (upd (s.1 15) 5 (vp_nar .boolean 1))) c n))) rfl rfl (q_d_neF h11) ?_
          refine q_RP_seg (g2 := (72, [(3, .int r2), (2, .int ((s.1 14) 0)), (0, .ref 64), (1, .int a1)], [.int 152, .int a1, .int 0, .ref 64], (q_kM (q_sA s 15 (upd (s.1 15) 5 (vp_nar .boolean 1))) c n))) 2 (fun _ _ => rfl) ?_
          cases h12 : decide (a1 = 152) with
          | true =>
            refine q_RP_cT ?_
            refine q_RP_rsF (g2 := (75, [(3, .int r2), (2, .int ((s.1 14) 0)), (0, .ref 64), (1, .int a1)], [.int 0, .ref 64], (q_kM (q_sA s 15 (upd (s.1 15) 5 (vp_nar .boolean 1))) c n))) rfl rfl (q_d_neT h12) ?_
            refine q_RP_seg (g2 := (96, [(3, .int r2), (2, .int ((s.1 14) 0)), (0, .ref 64), (1, .int a1)], [.int (((((s.1 14) 0) * 2) + r2) &&& 255), .int 0, .ref 64], (q_kM (q_sA s 15 (upd (s.1 15) 5 (vp_nar .boolean 1))) c n))) 8 (fun _ _ => rfl) ?_
            refine q_RP_bd fun r15 er15 => ?_
            refine q_RP_call (v := none) (h2 := (q_kM r15 c n)) rfl rfl ((dzt_M262_64 (q_sA s 15 (upd (s.1 15) 5 (vp_nar .boolean 1))) c n 0 (((((s.1 14) 0) * 2) + r2) &&& 255) r15 er15).le (Nat.le_of_ble_eq_true rfl)) ?_
            show q_RP _ _ _ (99, [(3, .int r2), (2, .int ((s.1 14) 0)), (0, .ref 64), (1, .int a1)], [], (q_kM r15 c n)) _ _
            exact q_RP_ret rfl rfl rfl
          | false =>
            refine q_RP_cF ?_
            refine q_RP_rsT (g2 := (87, [(3, .int r2), (2, .int ((s.1 14) 0)), (0, .ref 64), (1, .int a1)], [.int 0, .ref 64], (q_kM (q_sA s 15 (upd (s.1 15) 5 (vp_nar .boolean 1))) c n))) rfl rfl (q_d_neF h12) ?_
            refine q_RP_seg (g2 := (96, [(3, .int r2), (2, .int ((s.1 14) 0)), (0, .ref 64), (1, .int a1)], [.int ((((s.1 14) 0) / 2) + (128 * r2)), .int 0, .ref 64], (q_kM (q_sA s 15 (upd (s.1 15) 5 (vp_nar .boolean 1))) c n))) 7 (fun _ _ => rfl) ?_
            refine q_RP_bd fun r16 er16 => ?_
            refine q_RP_call (v := none) (h2 := (q_kM r16 c n)) rfl rfl ((dzt_M262_64 (q_sA s 15 (upd (s.1 15) 5 (vp_nar .boolean 1))) c n 0 ((((s.1 14) 0) / 2) + (128 * r2)) r16 er16).le (Nat.le_of_ble_eq_true rfl)) ?_
            show q_RP _ _ _ (99, [(3, .int r2), (2, .int ((s.1 14) 0)), (0, .ref 64), (1, .int a1)], [], (q_kM r16 c n)) _ _
            exact q_RP_ret rfl rfl rfl
    | false =>
      refine q_RP_cF ?_
      show q_RP _ _ _ (35, [(3, .int r2), (2, .int ((s.1 14) 0)), (0, .ref 64), (1, .int a1)], [.int 0, .int 5, .ref 79], (q_kM s c n)) _ _
      refine q_RP_seg (g2 := (42, [(3, .int r2), (2, .int ((s.1 14) 0)), (0, .ref 64), (1, .int a1)], [.int 150, .int a1, .int 0, .ref 64], (q_kM (q_sA s 15 (upd (s.1 15) 5 (vp_nar .boolean 0))) c n))) 5 (fun _ _ => rfl) ?_
      cases h13 : decide (a1 = 150) with
      | true =>
        refine q_RP_cT ?_
        refine q_RP_rsF (g2 := (45, [(3, .int r2), (2, .int ((s.1 14) 0)), (0, .ref 64), (1, .int a1)], [.int 0, .ref 64], (q_kM (q_sA s 15 (upd (s.1 15) 5 (vp_nar .boolean 0))) c n))) rfl rfl (q_d_neT h13) ?_
        refine q_RP_seg (g2 := (96, [(3, .int r2), (2, .int ((s.1 14) 0)), (0, .ref 64), (1, .int a1)], [.int ((((s.1 14) 0) * 2) &&& 255), .int 0, .ref 64], (q_kM (q_sA s 15 (upd (s.1 15) 5 (vp_nar .boolean 0))) c n))) 6 (fun _ _ => rfl) ?_
        refine q_RP_bd fun r17 er17 => ?_
        refine q_RP_call (v := none) (h2 := (q_kM r17 c n)) rfl rfl ((dzt_M262_64 (q_sA s 15 (upd (s.1 15) 5 (vp_nar .boolean 0))) c n 0 ((((s.1 14) 0) * 2) &&& 255) r17 er17).le (Nat.le_of_ble_eq_true rfl)) ?_
        show q_RP _ _ _ (99, [(3, .int r2), (2, .int ((s.1 14) 0)), (0, .ref 64), (1, .int a1)], [], (q_kM r17 c n)) _ _
        exact q_RP_ret rfl rfl rfl
      | false =>
        refine q_RP_cF ?_
        refine q_RP_rsT (g2 := (55, [(3, .int r2), (2, .int ((s.1 14) 0)), (0, .ref 64), (1, .int a1)], [.int 0, .ref 64], (q_kM (q_sA s 15 (upd (s.1 15) 5 (vp_nar .boolean 0))) c n))) rfl rfl (q_d_neF h13) ?_
        refine q_RP_seg (g2 := (59, [(3, .int r2), (2, .int ((s.1 14) 0)), (0, .ref 64), (1, .int a1)], [.int 151, .int a1, .int 0, .ref 64], (q_kM (q_sA s 15 (upd (s.1 15) 5 (vp_nar .boolean 0))) c n))) 2 (fun _ _ => rfl) ?_
        cases h14 : decide (a1 = 151) with
        | true =>
          refine q_RP_cT ?_
          refine q_RP_rsF (g2 := (62, [(3, .int r2), (2, .int ((s.1 14) 0)), (0, .ref 64), (1, .int a1)], [.int 0, .ref 64], (q_kM (q_sA s 15 (upd (s.1 15) 5 (vp_nar .boolean 0))) c n))) rfl rfl (q_d_neT h14) ?_
          refine q_RP_seg (g2 := (96, [(3, .int r2), (2, .int ((s.1 14) 0)), (0, .ref 64), (1, .int a1)], [.int (((s.1 14) 0) / 2), .int 0, .ref 64], (q_kM (q_sA s 15 (upd (s.1 15) 5 (vp_nar .boolean 0))) c n))) 4 (fun _ _ => rfl) ?_
          refine q_RP_bd fun r18 er18 => ?_
          refine q_RP_call (v := none) (h2 := (q_kM r18 c n)) rfl rfl ((dzt_M262_64 (q_sA s 15 (upd (s.1 15) 5 (vp_nar .boolean 0))) c n 0 (((s.1 14) 0) / 2) r18 er18).le (Nat.le_of_ble_eq_true rfl)) ?_
          show q_RP _ _ _ (99, [(3, .int r2), (2, .int ((s.1 14) 0)), (0, .ref 64), (1, .int a1)], [], (q_kM r18 c n)) _ _
          exact q_RP_ret rfl rfl rfl
        | false =>
          refine q_RP_cF ?_
          refine q_RP_rsT (g2 := (68, [(3, .int r2), (2, .int ((s.1 14) 0)), (0, .ref 64), (1, .int a1)], [.int 0, .ref 64], (q_kM (q_sA s 15 (upd (s.1 15) 5 (vp_nar .boolean 0))) c n))) rfl rfl (q_d_neF h14) ?_
          refine q_RP_seg (g2 := (72, [(3, .int r2), (2, .int ((s.1 14) 0)), (0, .ref 64), (1, .int a1)], [.int 152, .int a1, .int 0, .ref 64], (q_kM (q_sA s 15 (upd (s.1 15) 5 (vp_nar .boolean 0))) c n))) 2 (fun _ _ => rfl) ?_
          cases h15 : decide (a1 = 152) with
          | true =>
            refine q_RP_cT ?_
            refine q_RP_rsF (g2 := (75, [(3, .int r2), (2, .int ((s.1 14) 0)), (0, .ref 64), (1, .int a1)], [.int 0, .ref 64], (q_kM (q_sA s 15 (upd (s.1 15) 5 (vp_nar .boolean 0))) c n))) rfl rfl (q_d_neT h15) ?_
            refine q_RP_seg (g2 := (96, [(3, .int r2), (2, .int ((s.1 14) 0)), (0, .ref 64), (1, .int a1)], [.int (((((s.1 14) 0) * 2) + r2) &&& 255), .int 0, .ref 64], (q_kM (q_sA s 15 (upd (s.1 15) 5 (vp_nar .boolean 0))) c n))) 8 (fun _ _ => rfl) ?_
            refine q_RP_bd fun r19 er19 => ?_
            refine q_RP_call (v := none) (h2 := (q_kM r19 c n)) rfl rfl ((dzt_M262_64 (q_sA s 15 (upd (s.1 15) 5 (vp_nar .boolean 0))) c n 0 (((((s.1 14) 0) * 2) + r2) &&& 255) r19 er19).le (Nat.le_of_ble_eq_true rfl)) ?_
            show q_RP _ _ _ (99, [(3, .int r2), (2, .int ((s.1 14) 0)), (0, .ref 64), (1, .int a1)], [], (q_kM r19 c n)) _ _
            exact q_RP_ret rfl rfl rfl
          | false =>
            refine q_RP_cF ?_
            refine q_RP_rsT (g2 := (87, [(3, .int r2), (2, .int ((s.1 14) 0)), (0, .ref 64), (1, .int a1)], [.int 0, .ref 64], (q_kM (q_sA s 15 (upd (s.1 15) 5 (vp_nar .boolean 0))) c n))) rfl rfl (q_d_neF h15) ?_
            refine q_RP_seg (g2 := (96, [(3, .int r2), (2, .int ((s.1 14) 0)), (0, .ref 64), (1, .int a1)], [.int ((((s.1 14) 0) / 2) + (128 * r2)), .int 0, .ref 64], (q_kM (q_sA s 15 (upd (s.1 15) 5 (vp_nar .boolean 0))) c n))) 7 (fun _ _ => rfl) ?_
            refine q_RP_bd fun r20 er20 => ?_
            refine q_RP_call (v := none) (h2 := (q_kM r20 c n)) rfl rfl ((dzt_M262_64 (q_sA s 15 (upd (s.1 15) 5 (vp_nar .boolean 0))) c n 0 ((((s.1 14) 0) / 2) + (128 * r2)) r20 er20).le (Nat.le_of_ble_eq_true rfl)) ?_
            show q_RP _ _ _ (99, [(3, .int r2), (2, .int ((s.1 14) 0)), (0, .ref 64), (1, .int a1)], [], (q_kM r20 c n)) _ _
            exact q_RP_ret rfl rfl rfl
def dz_M273_64 (s : q_S) (a1 : Int32) (a2 : Int32) : Option (q_S) :=
  cond (decide (a1 < 128)) (q_let (dz_M213 (q_sA s 15 (upd (s.1 15) 7 (vp_nar .boolean 1))) (a2 + 1)) fun r4 => some (q_sA (q_sA s 15 (upd (s.1 15) 7 (vp_nar .boolean 1))) 14 (upd (s.1 14) 4 r4))) (cond (decide (153 < a1)) (q_let (dz_M213 (q_sA s 15 (upd (s.1 15) 7 (vp_nar .boolean 1))) (a2 + 1)) fun r5 => some (q_sA (q_sA s 15 (upd (s.1 15) 7 (vp_nar .boolean 1))) 14 (upd (s.1 14) 4 r5))) (cond (decide (a1 = 128)) ((dz_M262_64 s 1 ((((s.1 14) 1) + 1) &&& 255)).bind fun r6 => q_let (dz_M213 r6 (a2 + 1)) fun r7 => some (q_sA r6 14 (upd (r6.1 14) 4 r7))) (cond (decide (a1 = 129)) ((dz_M262_64 s 1 ((((s.1 14) 1) - 1) &&& 255)).bind fun r8 => q_let (dz_M213 r8 (a2 + 1)) fun r9 => some (q_sA r8 14 (upd (r8.1 14) 4 r9))) (cond (decide (a1 = 130)) ((dz_M262_64 s 2 ((((s.1 14) 2) + 1) &&& 255)).bind fun r10 => q_let (dz_M213 r10 (a2 + 1)) fun r11 => some (q_sA r10 14 (upd (r10.1 14) 4 r11))) (cond (decide (a1 = 131)) ((dz_M262_64 s 2 ((((s.1 14) 2) - 1) &&& 255)).bind fun r12 => q_let (dz_M213 r12 (a2 + 1)) fun r13 => some (q_sA r12 14 (upd (r12.1 14) 4 r13))) (cond (decide (a1 = 132)) ((dz_M262_64 s 1 ((s.1 14) 0)).bind fun r14 => q_let (dz_M213 r14 (a2 + 1)) fun r15 => some (q_sA r14 14 (upd (r14.1 14) 4 r15))) (cond (decide (a1 = 133)) ((dz_M262_64 s 0 ((s.1 14) 1)).bind fun r16 => q_let (dz_M213 r16 (a2 + 1)) fun r17 => some (q_sA r16 14 (upd (r16.1 14) 4 r17))) (cond (decide (a1 = 134)) ((dz_M262_64 s 2 ((s.1 14) 0)).bind fun r18 => q_let (dz_M213 r18 (a2 + 1)) fun r19 => some (q_sA r18 14 (upd (r18.1 14) 4 r19))) (cond (decide (a1 = 135)) ((dz_M262_64 s 0 ((s.1 14) 2)).bind fun r20 => q_let (dz_M213 r20 (a2 + 1)) fun r21 => some (q_sA r20 14 (upd (r20.1 14) 4 r21))) (cond (decide (a1 = 136)) ((dz_M262_64 s 1 ((s.1 14) 3)).bind fun r22 => q_let (dz_M213 r22 (a2 + 1)) fun r23 => some (q_sA r22 14 (upd (r22.1 14) 4 r23))) (cond (decide (a1 = 137)) (q_let (dz_M213 (q_sA s 14 (upd (s.1 14) 3 ((s.1 14) 1))) (a2 + 1)) fun r24 => q_let ((q_sA s 14 (upd (s.1 14) 3 ((s.1 14) 1)))) fun r25 => some (q_sA r25 14 (upd (r25.1 14) 4 r24))) (cond (decide (a1 = 138)) ((dz_M255_64 s ((s.1 14) 0)).bind fun r26 => q_let (dz_M213 r26 (a2 + 1)) fun r27 => some (q_sA r26 14 (upd (r26.1 14) 4 r27))) (cond (decide (a1 = 139)) ((dz_M256_64 s).bind fun r28 => (dz_M262_64 r28.1 0 r28.2).bind fun r29 => q_let (dz_M213 r29 (a2 + 1)) fun r30 => some (q_sA r29 14 (upd (r29.1 14) 4 r30))) (cond (decide (a1 = 140)) ((dz_M258_64 s 16).bind fun r31 => (dz_M255_64 s r31).bind fun r32 => q_let (dz_M213 r32 (a2 + 1)) fun r33 => some (q_sA r32 14 (upd (r32.1 14) 4 r33))) (cond (decide (a1 = 141)) ((dz_M256_64 s).bind fun r34 => q_let (dz_M259_64 r34.1 r34.2) fun r35 => q_let (dz_M213 r35 (a2 + 1)) fun r36 => some (q_sA r35 14 (upd (r35.1 14) 4 r36))) (cond (decide (a1 = 142)) (q_let (dz_M213 (q_sA s 15 (upd (s.1 15) 5 (vp_nar .boolean 1))) (a2 + 1)) fun r37 => some (q_sA (q_sA s 15 (upd (s.1 15) 5 (vp_nar .boolean 1))) 14 (upd (s.1 14) 4 r37))) (cond (decide (a1 = 143)) (q_let (dz_M213 (q_sA s 15 (upd (s.1 15) 5 (vp_nar .boolean 0))) (a2 + 1)) fun r38 => some (q_sA (q_sA s 15 (upd (s.1 15) 5 (vp_nar .boolean 0))) 14 (upd (s.1 14) 4 r38))) (cond (decide (a1 = 144)) (q_let (dz_M213 (q_sA s 15 (upd (s.1 15) 2 (vp_nar .boolean 1))) (a2 + 1)) fun r39 => some (q_sA (q_sA s 15 (upd (s.1 15) 2 (vp_nar .boolean 1))) 14 (upd (s.1 14) 4 r39))) (cond (decide (a1 = 145)) (q_let (dz_M213 (q_sA s 15 (upd (s.1 15) 2 (vp_nar .boolean 0))) (a2 + 1)) fun r40 => some (q_sA (q_sA s 15 (upd (s.1 15) 2 (vp_nar .boolean 0))) 14 (upd (s.1 14) 4 r40))) (cond (decide (a1 = 146)) (q_let (dz_M213 (q_sA s 15 (upd (s.1 15) 3 (vp_nar .boolean 1))) (a2 + 1)) fun r41 => some (q_sA (q_sA s 15 (upd (s.1 15) 3 (vp_nar .boolean 1))) 14 (upd (s.1 14) 4 r41))) (cond (decide (a1 = 147)) (q_let (dz_M213 (q_sA s 15 (upd (s.1 15) 3 (vp_nar .boolean 0))) (a2 + 1)) fun r42 => some (q_sA (q_sA s 15 (upd (s.1 15) 3 (vp_nar .boolean 0))) 14 (upd (s.1 14) 4 r42))) (cond (decide (a1 = 148)) (q_let (dz_M213 (q_sA s 15 (upd (s.1 15) 1 (vp_nar .boolean 0))) (a2 + 1)) fun r43 => some (q_sA (q_sA s 15 (upd (s.1 15) 1 (vp_nar .boolean 0))) 14 (upd (s.1 14) 4 r43))) (cond (decide (a1 = 149)) (q_let (dz_M213 s (a2 + 1)) fun r44 => some (q_sA s 14 (upd (s.1 14) 4 r44))) (cond (decide (a1 = 150)) ((dz_M272_64 s a1).bind fun r45 => q_let (dz_M213 r45 (a2 + 1)) fun r46 => some (q_sA r45 14 (upd (r45.1 14) 4 r46))) (cond (decide (a1 = 151)) ((dz_M272_64 s a1).bind fun r47 => q_let (dz_M213 r47 (a2 + 1)) fun r48 => some (q_sA r47 14 (upd (r47.1 14) 4 r48))) (cond (decide (a1 = 152)) ((dz_M272_64 s a1).bind fun r49 => q_let (dz_M213 r49 (a2 + 1)) fun r50 => some (q_sA r49 14 (upd (r49.1 14) 4 r50))) ((dz_M272_64 s a1).bind fun r51 => q_let (dz_M213 r51 (a2 + 1)) fun r52 => some (q_sA r51 14 (upd (r51.1 14) 4 r52)))))))))))))))))))))))))))))
set_option maxHeartbeats 4000000 in
theorem dzt_M273_64 (s : q_S) (c n : Nat) (a1 : Int32) (a2 : Int32) (x : q_S) (h : dz_M273_64 s a1 a2 = some x) : q_Ca q_TB0 4 272 [.ref 64, .int a1, .int a2] (q_kM s c n) ((q_oSM c n) x) := by
  refine q_CaP_of (φ := (q_oSM c n)) (Nat.le_of_ble_eq_true rfl) ?_ h
  clear h
  unfold dz_M273_64
  refine q_RP_seg (g2 := (1, [(0, .ref 64), (1, .int a1), (2, .int a2)], [.int a1], (q_kM s c n))) 1 (fun _ _ => rfl) ?_
  cases h4 : decide (a1 < 128) with
  | true =>
    refine q_RP_cT ?_
    refine q_RP_st1 (g2 := (415, [(0, .ref 64), (1, .int a1), (2, .int a2)], [], (q_kM s c n))) rfl (if_pos (Or.inl (Int32.lt_iff_toInt_lt.mp (of_decide_eq_true h4)))) ?_
    refine q_RP_seg (g2 := (431, [(0, .ref 64), (1, .int a1), (2, .int a2)], [.int (a2 + 1), .int 4, .ref 78], (q_kM (q_sA s 15 (upd (s.1 15) 7 (vp_nar .boolean 1))) c n))) 11 (fun _ _ => rfl) ?_
    refine q_RP_call (v := (some (.int (dz_M213 (q_sA s 15 (upd (s.1 15) 7 (vp_nar .boolean 1))) (a2 + 1))))) (h2 := (q_kM (q_sA s 15 (upd (s.1 15) 7 (vp_nar .boolean 1))) c n)) rfl rfl ((dzt_M213 (q_sA s 15 (upd (s.1 15) 7 (vp_nar .boolean 1))) c n (a2 + 1)).le (Nat.le_of_ble_eq_true rfl)) ?_
    generalize dz_M213 (q_sA s 15 (upd (s.1 15) 7 (vp_nar .boolean 1))) (a2 + 1) = r4
    refine q_RP_let ?_
    show q_RP _ _ _ (434, [(0, .ref 64), (1, .int a1), (2, .int a2)], [.int r4, .int 4, .ref 78], (q_kM (q_sA s 15 (upd (s.1 15) 7 (vp_nar .boolean 1))) c n)) _ _
    refine q_RP_seg (g2 := (435, [(0, .ref 64), (1, .int a1), (2, .int a2)], [], (q_kM (q_sA (q_sA s 15 (upd (s.1 15) 7 (vp_nar .boolean 1))) 14 (upd (s.1 14) 4 r4)) c n))) 1 (fun _ _ => rfl) ?_
    exact q_RP_ret rfl rfl rfl
  | false =>
    refine q_RP_cF ?_
    cases h5 : decide (153 < a1) with
    | true =>
      refine q_RP_cT ?_
      refine q_RP_st1 (g2 := (415, [(0, .ref 64), (1, .int a1), (2, .int a2)], [], (q_kM s c n))) rfl (if_pos (Or.inr (Int32.lt_iff_toInt_lt.mp (of_decide_eq_true h5)))) ?_
      refine q_RP_seg (g2 := (431, [(0, .ref 64), (1, .int a1), (2, .int a2)], [.int (a2 + 1), .int 4, .ref 78], (q_kM (q_sA s 15 (upd (s.1 15) 7 (vp_nar .boolean 1))) c n))) 11 (fun _ _ => rfl) ?_
      refine q_RP_call (v := (some (.int (dz_M213 (q_sA s 15 (upd (s.1 15) 7 (vp_nar .boolean 1))) (a2 + 1))))) (h2 := (q_kM (q_sA s 15 (upd (s.1 15) 7 (vp_nar .boolean 1))) c n)) rfl rfl ((dzt_M213 (q_sA s 15 (upd (s.1 15) 7 (vp_nar .boolean 1))) c n (a2 + 1)).le (Nat.le_of_ble_eq_true rfl)) ?_
      generalize dz_M213 (q_sA s 15 (upd (s.1 15) 7 (vp_nar .boolean 1))) (a2 + 1) = r5
      refine q_RP_let ?_
      show q_RP _ _ _ (434, [(0, .ref 64), (1, .int a1), (2, .int a2)], [.int r5, .int 4, .ref 78], (q_kM (q_sA s 15 (upd (s.1 15) 7 (vp_nar .boolean 1))) c n)) _ _
      refine q_RP_seg (g2 := (435, [(0, .ref 64), (1, .int a1), (2, .int a2)], [], (q_kM (q_sA (q_sA s 15 (upd (s.1 15) 7 (vp_nar .boolean 1))) 14 (upd (s.1 14) 4 r5)) c n))) 1 (fun _ _ => rfl) ?_
      exact q_RP_ret rfl rfl rfl
    | false =>
      refine q_RP_cF ?_
      cases h6 : decide (a1 = 128) with
      | true =>
        refine q_RP_cT ?_
        refine q_RP_st1 (g2 := (120, [(0, .ref 64), (1, .int a1), (2, .int a2)], [], (q_kM s c n))) rfl (by rw [of_decide_eq_true h6]; rfl) ?_
        refine q_RP_seg (g2 := (128, [(0, .ref 64), (1, .int a1), (2, .int a2)], [.int ((s.1 14) 1), .int 1, .ref 64], (q_kM s c n))) 6 (fun _ _ => rfl) ?_
        refine q_RP_seg (g2 := (134, [(0, .ref 64), (1, .int a1), (2, .int a2)], [.int ((((s.1 14) 1) + 1) &&& 255), .int 1, .ref 64], (q_kM s c n))) 4 (fun _ _ => rfl) ?_
        refine q_RP_bd fun r6 er6 => ?_
        refine q_RP_call (v := none) (h2 := (q_kM r6 c n)) rfl rfl ((dzt_M262_64 s c n 1 ((((s.1 14) 1) + 1) &&& 255) r6 er6).le (Nat.le_of_ble_eq_true rfl)) ?_
        show q_RP _ _ _ (137, [(0, .ref 64), (1, .int a1), (2, .int a2)], [], (q_kM r6 c n)) _ _
        refine q_RP_seg (g2 := (431, [(0, .ref 64), (1, .int a1), (2, .int a2)], [.int (a2 + 1), .int 4, .ref 78], (q_kM r6 c n))) 7 (fun _ _ => rfl) ?_
        refine q_RP_call (v := (some (.int (dz_M213 r6 (a2 + 1))))) (h2 := (q_kM r6 c n)) rfl rfl ((dzt_M213 r6 c n (a2 + 1)).le (Nat.le_of_ble_eq_true rfl)) ?_
        generalize dz_M213 r6 (a2 + 1) = r7
        refine q_RP_let ?_
        show q_RP _ _ _ (434, [(0, .ref 64), (1, .int a1), (2, .int a2)], [.int r7, .int 4, .ref 78], (q_kM r6 c n)) _ _
        refine q_RP_seg (g2 := (435, [(0, .ref 64), (1, .int a1), (2, .int a2)], [], (q_kM (q_sA r6 14 (upd (r6.1 14) 4 r7)) c n))) 1 (fun _ _ => rfl) ?_
        exact q_RP_ret rfl rfl rfl
      | false =>
        refine q_RP_cF ?_
        cases h7 : decide (a1 = 129) with
        | true =>
          refine q_RP_cT ?_
          refine q_RP_st1 (g2 := (140, [(0, .ref 64), (1, .int a1), (2, .int a2)], [], (q_kM s c n))) rfl (by rw [of_decide_eq_true h7]; rfl) ?_
          refine q_RP_seg (g2 := (148, [(0, .ref 64), (1, .int a1), (2, .int a2)], [.int ((s.1 14) 1), .int 1, .ref 64], (q_kM s c n))) 6 (fun _ _ => rfl) ?_
          refine q_RP_seg (g2 := (154, [(0, .ref 64), (1, .int a1), (2, .int a2)], [.int ((((s.1 14) 1) - 1) &&& 255), .int 1, .ref 64], (q_kM s c n))) 4 (fun _ _ => rfl) ?_
          refine q_RP_bd fun r8 er8 => ?_
          refine q_RP_call (v := none) (h2 := (q_kM r8 c n)) rfl rfl ((dzt_M262_64 s c n 1 ((((s.1 14) 1) - 1) &&& 255) r8 er8).le (Nat.le_of_ble_eq_true rfl)) ?_
          show q_RP _ _ _ (157, [(0, .ref 64), (1, .int a1), (2, .int a2)], [], (q_kM r8 c n)) _ _
          refine q_RP_seg (g2 := (431, [(0, .ref 64), (1, .int a1), (2, .int a2)], [.int (a2 + 1), .int 4, .ref 78], (q_kM r8 c n))) 7 (fun _ _ => rfl) ?_
          refine q_RP_call (v := (some (.int (dz_M213 r8 (a2 + 1))))) (h2 := (q_kM r8 c n)) rfl rfl ((dzt_M213 r8 c n (a2 + 1)).le (Nat.le_of_ble_eq_true rfl)) ?_
          generalize dz_M213 r8 (a2 + 1) = r9
          refine q_RP_let ?_
          show q_RP _ _ _ (434, [(0, .ref 64), (1, .int a1), (2, .int a2)], [.int r9, .int 4, .ref 78], (q_kM r8 c n)) _ _
          refine q_RP_seg (g2 := (435, [(0, .ref 64), (1, .int a1), (2, .int a2)], [], (q_kM (q_sA r8 14 (upd (r8.1 14) 4 r9)) c n))) 1 (fun _ _ => rfl) ?_
          exact q_RP_ret rfl rfl rfl
        | false =>
          refine q_RP_cF ?_
          cases h8 : decide (a1 = 130) with
          | true =>
            refine q_RP_cT ?_
            refine q_RP_st1 (g2 := (160, [(0, .ref 64), (1, .int a1), (2, .int a2)], [], (q_kM s c n))) rfl (by rw [of_decide_eq_true h8]; rfl) ?_
            refine q_RP_seg (g2 := (168, [(0, .ref 64), (1, .int a1), (2, .int a2)], [.int ((s.1 14) 2), .int 2, .ref 64], (q_kM s c n))) 6 (fun _ _ => rfl) ?_
            refine q_RP_seg (g2 := (174, [(0, .ref 64), (1, .int a1), (2, .int a2)], [.int ((((s.1 14) 2) + 1) &&& 255), .int 2, .ref 64], (q_kM s c n))) 4 (fun _ _ => rfl) ?_
            refine q_RP_bd fun r10 er10 => ?_
            refine q_RP_call (v := none) (h2 := (q_kM r10 c n)) rfl rfl ((dzt_M262_64 s c n 2 ((((s.1 14) 2) + 1) &&& 255) r10 er10).le (Nat.le_of_ble_eq_true rfl)) ?_
            show q_RP _ _ _ (177, [(0, .ref 64), (1, .int a1), (2, .int a2)], [], (q_kM r10 c n)) _ _
            refine q_RP_seg (g2 := (431, [(0, .ref 64), (1, .int a1), (2, .int a2)], [.int (a2 + 1), .int 4, .ref 78], (q_kM r10 c n))) 7 (fun _ _ => rfl) ?_
            refine q_RP_call (v := (some (.int (dz_M213 r10 (a2 + 1))))) (h2 := (q_kM r10 c n)) rfl rfl ((dzt_M213 r10 c n (a2 + 1)).le (Nat.le_of_ble_eq_true rfl)) ?_
            generalize dz_M213 r10 (a2 + 1) = r11
            refine q_RP_let ?_
            show q_RP _ _ _ (434, [(0, .ref 64), (1, .int a1), (2, .int a2)], [.int r11, .int 4, .ref 78], (q_kM r10 c n)) _ _
            refine q_RP_seg (g2 := (435, [(0, .ref 64), (1, .int a1), (2, .int a2)], [], (q_kM (q_sA r10 14 (upd (r10.1 14) 4 r11)) c n))) 1 (fun _ _ => rfl) ?_
            exact q_RP_ret rfl rfl rfl
          | false =>
            refine q_RP_cF ?_
            cases h9 : decide (a1 = 131) with
            | true =>
              refine q_RP_cT ?_
              refine q_RP_st1 (g2 := (180, [(0, .ref 64), (1, .int a1), (2, .int a2)], [], (q_kM s c n))) rfl (by rw [of_decide_eq_true h9]; rfl) ?_
              refine q_RP_seg (g2 := (188, [(0, .ref 64), (1, .int a1), (2, .int a2)], [.int ((s.1 14) 2), .int 2, .ref 64], (q_kM s c n))) 6 (fun _ _ => rfl) ?_
              refine q_RP_seg (g2 := (194, [(0, .ref 64), (1, .int a1), (2, .int a2)], [.int ((((s.1 14) 2) - 1) &&& 255), .int 2, .ref 64], (q_kM s c n))) 4 (fun _ _ => rfl) ?_
              refine q_RP_bd fun r12 er12 => ?_
              refine q_RP_call (v := none) (h2 := (q_kM r12 c n)) rfl rfl ((dzt_M262_64 s c n 2 ((((s.1 14) 2) - 1) &&& 255) r12 er12).le (Nat.le_of_ble_eq_true rfl)) ?_
              show q_RP _ _ _ (197, [(0, .ref 64), (1, .int a1), (2, .int a2)], [], (q_kM r12 c n)) _ _
              refine q_RP_seg (g2 := (431, [(0, .ref 64), (1, .int a1), (2, .int a2)], [.int (a2 + 1), .int 4, .ref 78], (q_kM r12 c n))) 7 (fun _ _ => rfl) ?_
              refine q_RP_call (v := (some (.int (dz_M213 r12 (a2 + 1))))) (h2 := (q_kM r12 c n)) rfl rfl ((dzt_M213 r12 c n (a2 + 1)).le (Nat.le_of_ble_eq_true rfl)) ?_
              generalize dz_M213 r12 (a2 + 1) = r13
              refine q_RP_let ?_
              show q_RP _ _ _ (434, [(0, .ref 64), (1, .int a1), (2, .int a2)], [.int r13, .int 4, .ref 78], (q_kM r12 c n)) _ _
              refine q_RP_seg (g2 := (435, [(0, .ref 64), (1, .int a1), (2, .int a2)], [], (q_kM (q_sA r12 14 (upd (r12.1 14) 4 r13)) c n))) 1 (fun _ _ => rfl) ?_
              exact q_RP_ret rfl rfl rfl
            | false =>
              refine q_RP_cF ?_
              cases h10 : decide (a1 = 132) with
              | true =>
                refine q_RP_cT ?_
                refine q_RP_st1 (g2 := (200, [(0, .ref 64), (1, .int a1), (2, .int a2)], [], (q_kM s c n))) rfl (by rw [of_decide_eq_true h10]; rfl) ?_
                refine q_RP_seg (g2 := (208, [(0, .ref 64), (1, .int a1), (2, .int a2)], [.int ((s.1 14) 0), .int 1, .ref 64], (q_kM s c n))) 6 (fun _ _ => rfl) ?_
                refine q_RP_bd fun r14 er14 => ?_
                refine q_RP_call (v := none) (h2 := (q_kM r14 c n)) rfl rfl ((dzt_M262_64 s c n 1 ((s.1 14) 0) r14 er14).le (Nat.le_of_ble_eq_true rfl)) ?_
                show q_RP _ _ _ (211, [(0, .ref 64), (1, .int a1), (2, .int a2)], [], (q_kM r14 c n)) _ _
                refine q_RP_seg (g2 := (431, [(0, .ref 64), (1, .int a1), (2, .int a2)], [.int (a2 + 1), .int 4, .ref 78], (q_kM r14 c n))) 7 (fun _ _ => rfl) ?_
                refine q_RP_call (v := (some (.int (dz_M213 r14 (a2 + 1))))) (h2 := (q_kM r14 c n)) rfl rfl ((dzt_M213 r14 c n (a2 + 1)).le (Nat.le_of_ble_eq_true rfl)) ?_
                generalize dz_M213 r14 (a2 + 1) = r15
                refine q_RP_let ?_
                show q_RP _ _ _ (434, [(0, .ref 64), (1, .int a1), (2, .int a2)], [.int r15, .int 4, .ref 78], (q_kM r14 c n)) _ _
                refine q_RP_seg (g2 := (435, [(0, .ref 64), (1, .int a1), (2, .int a2)], [], (q_kM (q_sA r14 14 (upd (r14.1 14) 4 r15)) c n))) 1 (fun _ _ => rfl) ?_
                exact q_RP_ret rfl rfl rfl
              | false =>
                refine q_RP_cF ?_
                cases h11 : decide (a1 = 133) with
                | true =>
                  refine q_RP_cT ?_
                  refine q_RP_st1 (g2 := (214, [(0, .ref 64), (1, .int a1), (2, .int a2)], [], (q_kM s c n))) rfl (by rw [of_decide_eq_true h11]; rfl) ?_
                  refine q_RP_seg (g2 := (222, [(0, .ref 64), (1, .int a1), (2, .int a2)], [.int ((s.1 14) 1), .int 0, .ref 64], (q_kM s c n))) 6 (fun _ _ => rfl) ?_
                  refine q_RP_bd fun r16 er16 => ?_
                  refine q_RP_call (v := none) (h2 := (q_kM r16 c n)) rfl rfl ((dzt_M262_64 s c n 0 ((s.1 14) 1) r16 er16).le (Nat.le_of_ble_eq_true rfl)) ?_
                  show q_RP _ _ _ (225, [(0, .ref 64), (1, .int a1), (2, .int a2)], [], (q_kM r16 c n)) _ _
                  refine q_RP_seg (g2 := (431, [(0, .ref 64), (1, .int a1), (2, .int a2)], [.int (a2 + 1), .int 4, .ref 78], (q_kM r16 c n))) 7 (fun _ _ => rfl) ?_
                  refine q_RP_call (v := (some (.int (dz_M213 r16 (a2 + 1))))) (h2 := (q_kM r16 c n)) rfl rfl ((dzt_M213 r16 c n (a2 + 1)).le (Nat.le_of_ble_eq_true rfl)) ?_
                  generalize dz_M213 r16 (a2 + 1) = r17
                  refine q_RP_let ?_
                  show q_RP _ _ _ (434, [(0, .ref 64), (1, .int a1), (2, .int a2)], [.int r17, .int 4, .ref 78], (q_kM r16 c n)) _ _
                  refine q_RP_seg (g2 := (435, [(0, .ref 64), (1, .int a1), (2, .int a2)], [], (q_kM (q_sA r16 14 (upd (r16.1 14) 4 r17)) c n))) 1 (fun _ _ => rfl) ?_
                  exact q_RP_ret rfl rfl rfl
                | false =>
                  refine q_RP_cF ?_
                  cases h12 : decide (a1 = 134) with
                  | true =>
                    refine q_RP_cT ?_
                    refine q_RP_st1 (g2 := (228, [(0, .ref 64), (1, .int a1), (2, .int a2)], [], (q_kM s c n))) rfl (by rw [of_decide_eq_true h12]; rfl) ?_
                    refine q_RP_seg (g2 := (236, [(0, .ref 64), (1, .int a1), (2, .int a2)], [.int ((s.1 14) 0), .int 2, .ref 64], (q_kM s c n))) 6 (fun _ _ => rfl) ?_
                    refine q_RP_bd fun r18 er18 => ?_
                    refine q_RP_call (v := none) (h2 := (q_kM r18 c n)) rfl rfl ((dzt_M262_64 s c n 2 ((s.1 14) 0) r18 er18).le (Nat.le_of_ble_eq_true rfl)) ?_
                    show q_RP _ _ _ (239, [(0, .ref 64), (1, .int a1), (2, .int a2)], [], (q_kM r18 c n)) _ _
                    refine q_RP_seg (g2 := (431, [(0, .ref 64), (1, .int a1), (2, .int a2)], [.int (a2 + 1), .int 4, .ref 78], (q_kM r18 c n))) 7 (fun _ _ => rfl) ?_
                    refine q_RP_call (v := (some (.int (dz_M213 r18 (a2 + 1))))) (h2 := (q_kM r18 c n)) rfl rfl ((dzt_M213 r18 c n (a2 + 1)).le (Nat.le_of_ble_eq_true rfl)) ?_
                    generalize dz_M213 r18 (a2 + 1) = r19
                    refine q_RP_let ?_
                    show q_RP _ _ _ (434, [(0, .ref 64), (1, .int a1), (2, .int a2)], [.int r19, .int 4, .ref 78], (q_kM r18 c n)) _ _
                    refine q_RP_seg (g2 := (435, [(0, .ref 64), (1, .int a1), (2, .int a2)], [], (q_kM (q_sA r18 14 (upd (r18.1 14) 4 r19)) c n))) 1 (fun _ _ => rfl) ?_
                    exact q_RP_ret rfl rfl rfl
                  | false =>
                    refine q_RP_cF ?_
                    cases h13 : decide (a1 = 135) with
                    | true =>
                      refine q_RP_cT ?_
                      refine q_RP_st1 (g2 := (242, [(0, .ref 64), (1, .int a1), (2, .int a2)], [], (q_kM s c n))) rfl (by rw [of_decide_eq_true h13]; rfl) ?_
                      refine q_RP_seg (g2 := (250, [(0, .ref 64), (1, .int a1), (2, .int a2)], [.int ((s.1 14) 2), .int 0, .ref 64], (q_kM s c n))) 6 (fun _ _ => rfl) ?_
                      refine q_RP_bd fun r20 er20 => ?_
                      refine q_RP_call (v := none) (h2 := (q_kM r20 c n)) rfl rfl ((dzt_M262_64 s c n 0 ((s.1 14) 2) r20 er20).le (Nat.le_of_ble_eq_true rfl)) ?_
                      show q_RP _ _ _ (253, [(0, .ref 64), (1, .int a1), (2, .int a2)], [], (q_kM r20 c n)) _ _
                      refine q_RP_seg (g2 := (431, [(0, .ref 64), (1, .int a1), (2, .int a2)], [.int (a2 + 1), .int 4, .ref 78], (q_kM r20 c n))) 7 (fun _ _ => rfl) ?_
                      refine q_RP_call (v := (some (.int (dz_M213 r20 (a2 + 1))))) (h2 := (q_kM r20 c n)) rfl rfl ((dzt_M213 r20 c n (a2 + 1)).le (Nat.le_of_ble_eq_true rfl)) ?_
                      generalize dz_M213 r20 (a2 + 1) = r21
                      refine q_RP_let ?_
                      show q_RP _ _ _ (434, [(0, .ref 64), (1, .int a1), (2, .int a2)], [.int r21, .int 4, .ref 78], (q_kM r20 c n)) _ _
                      refine q_RP_seg (g2 := (435, [(0, .ref 64), (1, .int a1), (2, .int a2)], [], (q_kM (q_sA r20 14 (upd (r20.1 14) 4 r21)) c n))) 1 (fun _ _ => rfl) ?_
                      exact q_RP_ret rfl rfl rfl
                    | false =>
                      refine q_RP_cF ?_
                      cases h14 : decide (a1 = 136) with
                      | true =>
                        refine q_RP_cT ?_
                        refine q_RP_st1 (g2 := (256, [(0, .ref 64), (1, .int a1), (2, .int a2)], [], (q_kM s c n))) rfl (by rw [of_decide_eq_true h14]; rfl) ?_
                        refine q_RP_seg (g2 := (264, [(0, .ref 64), (1, .int a1), (2, .int a2)], [.int ((s.1 14) 3), .int 1, .ref 64], (q_kM s c n))) 6 (fun _ _ => rfl) ?_
                        refine q_RP_bd fun r22 er22 => ?_
                        refine q_RP_call (v := none) (h2 := (q_kM r22 c n)) rfl rfl ((dzt_M262_64 s c n 1 ((s.1 14) 3) r22 er22).le (Nat.le_of_ble_eq_true rfl)) ?_
                        show q_RP _ _ _ (267, [(0, .ref 64), (1, .int a1), (2, .int a2)], [], (q_kM r22 c n)) _ _
                        refine q_RP_seg (g2 := (431, [(0, .ref 64), (1, .int a1), (2, .int a2)], [.int (a2 + 1), .int 4, .ref 78], (q_kM r22 c n))) 7 (fun _ _ => rfl) ?_
                        refine q_RP_call (v := (some (.int (dz_M213 r22 (a2 + 1))))) (h2 := (q_kM r22 c n)) rfl rfl ((dzt_M213 r22 c n (a2 + 1)).le (Nat.le_of_ble_eq_true rfl)) ?_
                        generalize dz_M213 r22 (a2 + 1) = r23
                        refine q_RP_let ?_
                        show q_RP _ _ _ (434, [(0, .ref 64), (1, .int a1), (2, .int a2)], [.int r23, .int 4, .ref 78], (q_kM r22 c n)) _ _
                        refine q_RP_seg (g2 := (435, [(0, .ref 64), (1, .int a1), (2, .int a2)], [], (q_kM (q_sA r22 14 (upd (r22.1 14) 4 r23)) c n))) 1 (fun _ _ => rfl) ?_
                        exact q_RP_ret rfl rfl rfl
                      | false =>
                        refine q_RP_cF ?_
                        cases h15 : decide (a1 = 137) with
                        | true =>
                          refine q_RP_cT ?_
                          refine q_RP_st1 (g2 := (270, [(0, .ref 64), (1, .int a1), (2, .int a2)], [], (q_kM s c n))) rfl (by rw [of_decide_eq_true h15]; rfl) ?_
                          refine q_RP_seg (g2 := (281, [(0, .ref 64), (1, .int a1), (2, .int a2)], [.int ((s.1 14) 1), .int 3, .ref 78], (q_kM s c n))) 7 (fun _ _ => rfl) ?_
                          refine q_RP_seg (g2 := (431, [(0, .ref 64), (1, .int a1), (2, .int a2)], [.int (a2 + 1), .int 4, .ref 78], (q_kM (q_sA s 14 (upd (s.1 14) 3 ((s.1 14) 1))) c n))) 8 (fun _ _ => rfl) ?_
                          refine q_RP_call (v := (some (.int (dz_M213 (q_sA s 14 (upd (s.1 14) 3 ((s.1 14) 1))) (a2 + 1))))) (h2 := (q_kM (q_sA s 14 (upd (s.1 14) 3 ((s.1 14) 1))) c n)) rfl rfl ((dzt_M213 (q_sA s 14 (upd (s.1 14) 3 ((s.1 14) 1))) c n (a2 + 1)).le (Nat.le_of_ble_eq_true rfl)) ?_
                          generalize dz_M213 (q_sA s 14 (upd (s.1 14) 3 ((s.1 14) 1))) (a2 + 1) = r24
                          refine q_RP_let ?_
                          show q_RP _ _ _ (434, [(0, .ref 64), (1, .int a1), (2, .int a2)], [.int r24, .int 4, .ref 78], (q_kM (q_sA s 14 (upd (s.1 14) 3 ((s.1 14) 1))) c n)) _ _
                          generalize (q_sA s 14 (upd (s.1 14) 3 ((s.1 14) 1))) = r25
                          refine q_RP_let ?_
                          show q_RP _ _ _ (434, [(0, .ref 64), (1, .int a1), (2, .int a2)], [.int r24, .int 4, .ref 78], (q_kM r25 c n)) _ _
                          refine q_RP_seg (g2 := (435, [(0, .ref 64), (1, .int a1), (2, .int a2)], [], (q_kM (q_sA r25 14 (upd (r25.1 14) 4 r24)) c n))) 1 (fun _ _ => rfl) ?_
                          exact q_RP_ret rfl rfl rfl
                        | false =>
                          refine q_RP_cF ?_
                          cases h16 : decide (a1 = 138) with
                          | true =>
                            refine q_RP_cT ?_
                            refine q_RP_st1 (g2 := (285, [(0, .ref 64), (1, .int a1), (2, .int a2)], [], (q_kM s c n))) rfl (by rw [of_decide_eq_true h16]; rfl) ?_
                            refine q_RP_seg (g2 := (292, [(0, .ref 64), (1, .int a1), (2, .int a2)], [.int ((s.1 14) 0), .ref 64], (q_kM s c n))) 5 (fun _ _ => rfl) ?_
                            refine q_RP_bd fun r26 er26 => ?_
                            refine q_RP_call (v := none) (h2 := (q_kM r26 c n)) rfl rfl ((dzt_M255_64 s c n ((s.1 14) 0) r26 er26).le (Nat.le_of_ble_eq_true rfl)) ?_
                            show q_RP _ _ _ (295, [(0, .ref 64), (1, .int a1), (2, .int a2)], [], (q_kM r26 c n)) _ _
                            refine q_RP_seg (g2 := (431, [(0, .ref 64), (1, .int a1), (2, .int a2)], [.int (a2 + 1), .int 4, .ref 78], (q_kM r26 c n))) 7 (fun _ _ => rfl) ?_
                            refine q_RP_call (v := (some (.int (dz_M213 r26 (a2 + 1))))) (h2 := (q_kM r26 c n)) rfl rfl ((dzt_M213 r26 c n (a2 + 1)).le (Nat.le_of_ble_eq_true rfl)) ?_
                            generalize dz_M213 r26 (a2 + 1) = r27
                            refine q_RP_let ?_
                            show q_RP _ _ _ (434, [(0, .ref 64), (1, .int a1), (2, .int a2)], [.int r27, .int 4, .ref 78], (q_kM r26 c n)) _ _
                            refine q_RP_seg (g2 := (435, [(0, .ref 64), (1, .int a1), (2, .int a2)], [], (q_kM (q_sA r26 14 (upd (r26.1 14) 4 r27)) c n))) 1 (fun _ _ => rfl) ?_
                            exact q_RP_ret rfl rfl rfl
                          | false =>
                            refine q_RP_cF ?_
                            cases h17 : decide (a1 = 139) with
                            | true =>
                              refine q_RP_cT ?_
                              refine q_RP_st1 (g2 := (298, [(0, .ref 64), (1, .int a1), (2, .int a2)], [], (q_kM s c n))) rfl (by rw [of_decide_eq_true h17]; rfl) ?_
                              refine q_RP_seg (g2 := (301, [(0, .ref 64), (1, .int a1), (2, .int a2)], [.ref 64, .int 0, .ref 64], (q_kM s c n))) 3 (fun _ _ => rfl) ?_
                              refine q_RP_bd fun r28 er28 => ?_
                              refine q_RP_call (v := (some (.int r28.2))) (h2 := (q_kM r28.1 c n)) rfl rfl ((dzt_M256_64 s c n r28 er28).le (Nat.le_of_ble_eq_true rfl)) ?_
                              show q_RP _ _ _ (304, [(0, .ref 64), (1, .int a1), (2, .int a2)], [.int r28.2, .int 0, .ref 64], (q_kM r28.1 c n)) _ _
                              refine q_RP_bd fun r29 er29 => ?_
                              refine q_RP_call (v := none) (h2 := (q_kM r29 c n)) rfl rfl ((dzt_M262_64 r28.1 c n 0 r28.2 r29 er29).le (Nat.le_of_ble_eq_true rfl)) ?_
                              show q_RP _ _ _ (307, [(0, .ref 64), (1, .int a1), (2, .int a2)], [], (q_kM r29 c n)) _ _
                              refine q_RP_seg (g2 := (431, [(0, .ref 64), (1, .int a1), (2, .int a2)], [.int (a2 + 1), .int 4, .ref 78], (q_kM r29 c n))) 7 (fun _ _ => rfl) ?_
                              refine q_RP_call (v := (some (.int (dz_M213 r29 (a2 + 1))))) (h2 := (q_kM r29 c n)) rfl rfl ((dzt_M213 r29 c n (a2 + 1)).le (Nat.le_of_ble_eq_true rfl)) ?_
                              generalize dz_M213 r29 (a2 + 1) = r30
                              refine q_RP_let ?_
                              show q_RP _ _ _ (434, [(0, .ref 64), (1, .int a1), (2, .int a2)], [.int r30, .int 4, .ref 78], (q_kM r29 c n)) _ _
                              refine q_RP_seg (g2 := (435, [(0, .ref 64), (1, .int a1), (2, .int a2)], [], (q_kM (q_sA r29 14 (upd (r29.1 14) 4 r30)) c n))) 1 (fun _ _ => rfl) ?_
                              exact q_RP_ret rfl rfl rfl
                            | false =>
                              refine q_RP_cF ?_
                              cases h18 : decide (a1 = 140) with
                              | true =>
                                refine q_RP_cT ?_
                                refine q_RP_st1 (g2 := (310, [(0, .ref 64), (1, .int a1), (2, .int a2)], [], (q_kM s c n))) rfl (by rw [of_decide_eq_true h18]; rfl) ?_
                                refine q_RP_seg (g2 := (314, [(0, .ref 64), (1, .int a1), (2, .int a2)], [.int 16, .ref 64, .ref 64], (q_kM s c n))) 3 (fun _ _ => rfl) ?_
                                refine q_RP_bd fun r31 er31 => ?_
                                refine q_RP_call (v := (some (.int r31))) (h2 := (q_kM s c n)) rfl rfl ((dzt_M258_64 s c n 16 r31 er31).le (Nat.le_of_ble_eq_true rfl)) ?_
                                show q_RP _ _ _ (317, [(0, .ref 64), (1, .int a1), (2, .int a2)], [.int r31, .ref 64], (q_kM s c n)) _ _
                                refine q_RP_bd fun r32 er32 => ?_
                                refine q_RP_call (v := none) (h2 := (q_kM r32 c n)) rfl rfl ((dzt_M255_64 s c n r31 r32 er32).le (Nat.le_of_ble_eq_true rfl)) ?_
                                show q_RP _ _ _ (320, [(0, .ref 64), (1, .int a1), (2, .int a2)], [], (q_kM r32 c n)) _ _
                                refine q_RP_seg (g2 := (431, [(0, .ref 64), (1, .int a1), (2, .int a2)], [.int (a2 + 1), .int 4, .ref 78], (q_kM r32 c n))) 7 (fun _ _ => rfl) ?_
                                refine q_RP_call (v := (some (.int (dz_M213 r32 (a2 + 1))))) (h2 := (q_kM r32 c n)) rfl rfl ((dzt_M213 r32 c n (a2 + 1)).le (Nat.le_of_ble_eq_true rfl)) ?_
                                generalize dz_M213 r32 (a2 + 1) = r33
                                refine q_RP_let ?_
                                show q_RP _ _ _ (434, [(0, .ref 64), (1, .int a1), (2, .int a2)], [.int r33, .int 4, .ref 78], (q_kM r32 c n)) _ _
                                refine q_RP_seg (g2 := (435, [(0, .ref 64), (1, .int a1), (2, .int a2)], [], (q_kM (q_sA r32 14 (upd (r32.1 14) 4 r33)) c n))) 1 (fun _ _ => rfl) ?_
                                exact q_RP_ret rfl rfl rfl
                              | false =>
                                refine q_RP_cF ?_
                                cases h19 : decide (a1 = 141) with
                                | true =>
                                  refine q_RP_cT ?_
                                  refine q_RP_st1 (g2 := (323, [(0, .ref 64), (1, .int a1), (2, .int a2)], [], (q_kM s c n))) rfl (by rw [of_decide_eq_true h19]; rfl) ?_
                                  refine q_RP_seg (g2 := (325, [(0, .ref 64), (1, .int a1), (2, .int a2)], [.ref 64, .ref 64], (q_kM s c n))) 2 (fun _ _ => rfl) ?_
                                  refine q_RP_bd fun r34 er34 => ?_
                                  refine q_RP_call (v := (some (.int r34.2))) (h2 := (q_kM r34.1 c n)) rfl rfl ((dzt_M256_64 s c n r34 er34).le (Nat.le_of_ble_eq_true rfl)) ?_
                                  show q_RP _ _ _ (328, [(0, .ref 64), (1, .int a1), (2, .int a2)], [.int r34.2, .ref 64], (q_kM r34.1 c n)) _ _
                                  refine q_RP_call (v := none) (h2 := (q_kM (dz_M259_64 r34.1 r34.2) c n)) rfl rfl ((dzt_M259_64 r34.1 c n r34.2).le (Nat.le_of_ble_eq_true rfl)) ?_
                                  generalize dz_M259_64 r34.1 r34.2 = r35
                                  refine q_RP_let ?_
                                  show q_RP _ _ _ (331, [(0, .ref 64), (1, .int a1), (2, .int a2)], [], (q_kM r35 c n)) _ _
                                  refine q_RP_seg (g2 := (431, [(0, .ref 64), (1, .int a1), (2, .int a2)], [.int (a2 + 1), .int 4, .ref 78], (q_kM r35 c n))) 7 (fun _ _ => rfl) ?_
                                  refine q_RP_call (v := (some (.int (dz_M213 r35 (a2 + 1))))) (h2 := (q_kM r35 c n)) rfl rfl ((dzt_M213 r35 c n (a2 + 1)).le (Nat.le_of_ble_eq_true rfl)) ?_
                                  generalize dz_M213 r35 (a2 + 1) = r36
                                  refine q_RP_let ?_
                                  show q_RP _ _ _ (434, [(0, .ref 64), (1, .int a1), (2, .int a2)], [.int r36, .int 4, .ref 78], (q_kM r35 c n)) _ _
                                  refine q_RP_seg (g2 := (435, [(0, .ref 64), (1, .int a1), (2, .int a2)], [], (q_kM (q_sA r35 14 (upd (r35.1 14) 4 r36)) c n))) 1 (fun _ _ => rfl) ?_
                                  exact q_RP_ret rfl rfl rfl
                                | false =>
                                  refine q_RP_cF ?_
                                  cases h20 : decide (a1 = 142) with
                                  | true =>
                                    refine q_RP_cT ?_
                                    refine q_RP_st1 (g2 := (334, [(0, .ref 64), (1, .int a1), (2, .int a2)], [], (q_kM s c n))) rfl (by rw [of_decide_eq_true h20]; rfl) ?_
                                    refine q_RP_seg (g2 := (431, [(0, .ref 64), (1, .int a1), (2, .int a2)], [.int (a2 + 1), .int 4, .ref 78], (q_kM (q_sA s 15 (upd (s.1 15) 5 (vp_nar .boolean 1))) c n))) 12 (fun _ _ => rfl) ?_
                                    refine q_RP_call (v := (some (.int (dz_M213 (q_sA s 15 (upd (s.1 15) 5 (vp_nar .boolean 1))) (a2 + 1))))) (h2 := (q_kM (q_sA s 15 (upd (s.1 15) 5 (vp_nar .boolean 1))) c n)) rfl rfl ((dzt_M213 (q_sA s 15 (upd (s.1 15) 5 (vp_nar .boolean 1))) c n (a2 + 1)).le (Nat.le_of_ble_eq_true rfl)) ?_
                                    generalize dz_M213 (q_sA s 15 (upd (s.1 15) 5 (vp_nar .boolean 1))) (a2 + 1) = r37
                                    refine q_RP_let ?_
                                    show q_RP _ _ _ (434, [(0, .ref 64), (1, .int a1), (2, .int a2)], [.int r37, .int 4, .ref 78], (q_kM (q_sA s 15 (upd (s.1 15) 5 (vp_nar .boolean 1))) c n)) _ _
                                    refine q_RP_seg (g2 := (435, [(0, .ref 64), (1, .int a1), (2, .int a2)], [], (q_kM (q_sA (q_sA s 15 (upd (s.1 15) 5 (vp_nar .boolean 1))) 14 (upd (s.1 14) 4 r37)) c n))) 1 (fun _ _ => rfl) ?_
                                    exact q_RP_ret rfl rfl rfl
                                  | false =>
                                    refine q_RP_cF ?_
                                    cases h21 : decide (a1 = 143) with
                                    | true =>
                                      refine q_RP_cT ?_
                                      refine q_RP_st1 (g2 := (344, [(0, .ref 64), (1, .int a1), (2, .int a2)], [], (q_kM s c n))) rfl (by rw [of_decide_eq_true h21]; rfl) ?_
                                      refine q_RP_seg (g2 := (431, [(0, .ref 64), (1, .int a1), (2, .int a2)], [.int (a2 + 1), .int 4, .ref 78], (q_kM (q_sA s 15 (upd (s.1 15) 5 (vp_nar .boolean 0))) c n))) 12 (fun _ _ => rfl) ?_
                                      refine q_RP_call (v := (some (.int (dz_M213 (q_sA s 15 (upd (s.1 15) 5 (vp_nar .boolean 0))) (a2 + 1))))) (h2 := (q_kM (q_sA s 15 (upd (s.1 15) 5 (vp_nar .boolean 0))) c n)) rfl rfl ((dzt_M213 (q_sA s 15 (upd (s.1 15) 5 (vp_nar .boolean 0))) c n (a2 + 1)).le (Nat.le_of_ble_eq_true rfl)) ?_
                                      generalize dz_M213 (q_sA s 15 (upd (s.1 15) 5 (vp_nar .boolean 0))) (a2 + 1) = r38
                                      refine q_RP_let ?_
                                      show q_RP _ _ _ (434, [(0, .ref 64), (1, .int a1), (2, .int a2)], [.int r38, .int 4, .ref 78], (q_kM (q_sA s 15 (upd (s.1 15) 5 (vp_nar .boolean 0))) c n)) _ _
                                      refine q_RP_seg (g2 := (435, [(0, .ref 64), (1, .int a1), (2, .int a2)], [], (q_kM (q_sA (q_sA s 15 (upd (s.1 15) 5 (vp_nar .boolean 0))) 14 (upd (s.1 14) 4 r38)) c n))) 1 (fun _ _ => rfl) ?_
                                      exact q_RP_ret rfl rfl rfl
                                    | false =>
                                      refine q_RP_cF ?_
                                      cases h22 : decide (a1 = 144) with
                                      | true =>
                                        refine q_RP_cT ?_
                                        refine q_RP_st1 (g2 := (354, [(0, .ref 64), (1, .int a1), (2, .int a2)], [], (q_kM s c n))) rfl (by rw [of_decide_eq_true h22]; rfl) ?_
                                        refine q_RP_seg (g2 := (431, [(0, .ref 64), (1, .int a1), (2, .int a2)], [.int (a2 + 1), .int 4, .ref 78], (q_kM (q_sA s 15 (upd (s.1 15) 2 (vp_nar .boolean 1))) c n))) 12 (fun _ _ => rfl) ?_
                                        refine q_RP_call (v := (some (.int (dz_M213 (q_sA s 15 (upd (s.1 15) 2 (vp_nar .boolean 1))) (a2 + 1))))) (h2 := (q_kM (q_sA s 15 (upd (s.1 15) 2 (vp_nar .boolean 1))) c n)) rfl rfl ((dzt_M213 (q_sA s 15 (upd (s.1 15) 2 (vp_nar .boolean 1))) c n (a2 + 1)).le (Nat.le_of_ble_eq_true rfl)) ?_
                                        generalize dz_M213 (q_sA s 15 (upd (s.1 15) 2 (vp_nar .boolean 1))) (a2 + 1) = r39
                                        refine q_RP_let ?_
                                        show q_RP _ _ _ (434, [(0, .ref 64), (1, .int a1), (2, .int a2)], [.int r39, .int 4, .ref 78], (q_kM (q_sA s 15 (upd (s.1 15) 2 (vp_nar .boolean 1))) c n)) _ _
                                        refine q_RP_seg (g2 := (435, [(0, .ref 64), (1, .int a1), (2, .int a2)], [], (q_kM (q_sA (q_sA s 15 (upd (s.1 15) 2 (vp_nar .boolean 1))) 14 (upd (s.1 14) 4 r39)) c n))) 1 (fun _ _ => rfl) ?_
                                        exact q_RP_ret rfl rfl rfl
                                      | false =>
                                        refine q_RP_cF ?_
                                        cases h23 : decide (a1 = 145) with
                                        | true =>
                                          refine q_RP_cT ?_
                                          refine q_RP_st1 (g2 := (364, [(0, .ref 64), (1, .int a1), (2, .int a2)], [], (q_kM s c n))) rfl (by rw [of_decide_eq_true h23]; rfl) ?_
                                          refine q_RP_seg (g2 := (431, [(0, .ref 64), (1, .int a1), (2, .int a2)], [.int (a2 + 1), .int 4, .ref 78], (q_kM (q_sA s 15 (upd (s.1 15) 2 (vp_nar .boolean 0))) c n))) 12 (fun _ _ => rfl) ?_
                                          refine q_RP_call (v := (some (.int (dz_M213 (q_sA s 15 (upd (s.1 15) 2 (vp_nar .boolean 0))) (a2 + 1))))) (h2 := (q_kM (q_sA s 15 (upd (s.1 15) 2 (vp_nar .boolean 0))) c n)) rfl rfl ((dzt_M213 (q_sA s 15 (upd (s.1 15) 2 (vp_nar .boolean 0))) c n (a2 + 1)).le (Nat.le_of_ble_eq_true rfl)) ?_
                                          generalize dz_M213 (q_sA s 15 (upd (s.1 15) 2 (vp_nar .boolean 0))) (a2 + 1) = r40
                                          refine q_RP_let ?_
                                          show q_RP _ _ _ (434, [(0, .ref 64), (1, .int a1), (2, .int a2)], [.int r40, .int 4, .ref 78], (q_kM (q_sA s 15 (upd (s.1 15) 2 (vp_nar .boolean 0))) c n)) _ _
                                          refine q_RP_seg (g2 := (435, [(0, .ref 64), (1, .int a1), (2, .int a2)], [], (q_kM (q_sA (q_sA s 15 (upd (s.1 15) 2 (vp_nar .boolean 0))) 14 (upd (s.1 14) 4 r40)) c n))) 1 (fun _ _ => rfl) ?_
                                          exact q_RP_ret rfl rfl rfl
                                        | false =>
                                          refine q_RP_cF ?_
                                          cases h24 : decide (a1 = 146) with
                                          | true =>
                                            refine q_RP_cT ?_
                                            refine q_RP_st1 (g2 := (374, [(0, .ref 64), (1, .int a1), (2, .int a2)], [], (q_kM s c n))) rfl (by rw [of_decide_eq_true h24]; rfl) ?_
                                            refine q_RP_seg (g2 := (431, [(0, .ref 64), (1, .int a1), (2, .int a2)], [.int (a2 + 1), .int 4, .ref 78], (q_kM (q_sA s 15 (upd (s.1 15) 3 (vp_nar .boolean 1))) c n))) 12 (fun _ _ => rfl) ?_
                                            refine q_RP_call (v := (some (.int (dz_M213 (q_sA s 15 (upd (s.1 15) 3 (vp_nar .boolean 1))) (a2 + 1))))) (h2 := (q_kM (q_sA s 15 (upd (s.1 15) 3 (vp_nar .boolean 1))) c n)) rfl rfl ((dzt_M213 (q_sA s 15 (upd (s.1 15) 3 (vp_nar .boolean 1))) c n (a2 + 1)).le (Nat.le_of_ble_eq_true rfl)) ?_
                                            generalize dz_M213 (q_sA s 15 (upd (s.1 15) 3 (vp_nar .boolean 1))) (a2 + 1) = r41
                                            refine q_RP_let ?_
                                            show q_RP _ _ _ (434, [(0, .ref 64), (1, .int a1), (2, .int a2)], [.int r41, .int 4, .ref 78], (q_kM (q_sA s 15 (upd (s.1 15) 3 (vp_nar .boolean 1))) c n)) _ _
                                            refine q_RP_seg (g2 := (435, [(0, .ref 64), (1, .int a1), (2, .int a2)], [], (q_kM (q_sA (q_sA s 15 (upd (s.1 15) 3 (vp_nar .boolean 1))) 14 (upd (s.1 14) 4 r41)) c n))) 1 (fun _ _ => rfl) ?_
                                            exact q_RP_ret rfl rfl rfl
                                          | false =>
                                            refine q_RP_cF ?_
                                            cases h25 : decide (a1 = 147) with
                                            | true =>
                                              refine q_RP_cT ?_
                                              refine q_RP_st1 (g2 := (384, [(0, .ref 64), (1, .int a1), (2, .int a2)], [], (q_kM s c n))) rfl (by rw [of_decide_eq_true h25]; rfl) ?_
                                              refine q_RP_seg (g2 := (431, [(0, .ref 64), (1, .int a1), (2, .int a2)], [.int (a2 + 1), .int 4, .ref 78], (q_kM (q_sA s 15 (upd (s.1 15) 3 (vp_nar .boolean 0))) c n))) 12 (fun _ _ => rfl) ?_
                                              refine q_RP_call (v := (some (.int (dz_M213 (q_sA s 15 (upd (s.1 15) 3 (vp_nar .boolean 0))) (a2 + 1))))) (h2 := (q_kM (q_sA s 15 (upd (s.1 15) 3 (vp_nar .boolean 0))) c n)) rfl rfl ((dzt_M213 (q_sA s 15 (upd (s.1 15) 3 (vp_nar .boolean 0))) c n (a2 + 1)).le (Nat.le_of_ble_eq_true rfl)) ?_
                                              generalize dz_M213 (q_sA s 15 (upd (s.1 15) 3 (vp_nar .boolean 0))) (a2 + 1) = r42
                                              refine q_RP_let ?_
                                              show q_RP _ _ _ (434, [(0, .ref 64), (1, .int a1), (2, .int a2)], [.int r42, .int 4, .ref 78], (q_kM (q_sA s 15 (upd (s.1 15) 3 (vp_nar .boolean 0))) c n)) _ _
                                              refine q_RP_seg (g2 := (435, [(0, .ref 64), (1, .int a1), (2, .int a2)], [], (q_kM (q_sA (q_sA s 15 (upd (s.1 15) 3 (vp_nar .boolean 0))) 14 (upd (s.1 14) 4 r42)) c n))) 1 (fun _ _ => rfl) ?_
                                              exact q_RP_ret rfl rfl rfl
                                            | false =>
                                              refine q_RP_cF ?_
                                              cases h26 : decide (a1 = 148) with
                                              | true =>
                                                refine q_RP_cT ?_
                                                refine q_RP_st1 (g2 := (394, [(0, .ref 64), (1, .int a1), (2, .int a2)], [], (q_kM s c n))) rfl (by rw [of_decide_eq_true h26]; rfl) ?_
                                                refine q_RP_seg (g2 := (431, [(0, .ref 64), (1, .int a1), (2, .int a2)], [.int (a2 + 1), .int 4, .ref 78], (q_kM (q_sA s 15 (upd (s.1 15) 1 (vp_nar .boolean 0))) c n))) 12 (fun _ _ => rfl) ?_
                                                refine q_RP_call (v := (some (.int (dz_M213 (q_sA s 15 (upd (s.1 15) 1 (vp_nar .boolean 0))) (a2 + 1))))) (h2 := (q_kM (q_sA s 15 (upd (s.1 15) 1 (vp_nar .boolean 0))) c n)) rfl rfl ((dzt_M213 (q_sA s 15 (upd (s.1 15) 1 (vp_nar .boolean 0))) c n (a2 + 1)).le (Nat.le_of_ble_eq_true rfl)) ?_
                                                generalize dz_M213 (q_sA s 15 (upd (s.1 15) 1 (vp_nar .boolean 0))) (a2 + 1) = r43
                                                refine q_RP_let ?_
                                                show q_RP _ _ _ (434, [(0, .ref 64), (1, .int a1), (2, .int a2)], [.int r43, .int 4, .ref 78], (q_kM (q_sA s 15 (upd (s.1 15) 1 (vp_nar .boolean 0))) c n)) _ _
                                                refine q_RP_seg (g2 := (435, [(0, .ref 64), (1, .int a1), (2, .int a2)], [], (q_kM (q_sA (q_sA s 15 (upd (s.1 15) 1 (vp_nar .boolean 0))) 14 (upd (s.1 14) 4 r43)) c n))) 1 (fun _ _ => rfl) ?_
                                                exact q_RP_ret rfl rfl rfl
                                              | false =>
                                                refine q_RP_cF ?_
                                                cases h27 : decide (a1 = 149) with
                                                | true =>
                                                  refine q_RP_cT ?_
                                                  refine q_RP_st1 (g2 := (404, [(0, .ref 64), (1, .int a1), (2, .int a2)], [], (q_kM s c n))) rfl (by rw [of_decide_eq_true h27]; rfl) ?_
                                                  refine q_RP_seg (g2 := (431, [(0, .ref 64), (1, .int a1), (2, .int a2)], [.int (a2 + 1), .int 4, .ref 78], (q_kM s c n))) 7 (fun _ _ => rfl) ?_
                                                  refine q_RP_call (v := (some (.int (dz_M213 s (a2 + 1))))) (h2 := (q_kM s c n)) rfl rfl ((dzt_M213 s c n (a2 + 1)).le (Nat.le_of_ble_eq_true rfl)) ?_
                                                  generalize dz_M213 s (a2 + 1) = r44
                                                  refine q_RP_let ?_
                                                  show q_RP _ _ _ (434, [(0, .ref 64), (1, .int a1), (2, .int a2)], [.int r44, .int 4, .ref 78], (q_kM s c n)) _ _
                                                  refine q_RP_seg (g2 := (435, [(0, .ref 64), (1, .int a1), (2, .int a2)], [], (q_kM (q_sA s 14 (upd (s.1 14) 4 r44)) c n))) 1 (fun _ _ => rfl) ?_
                                                  exact q_RP_ret rfl rfl rfl
                                                | false =>
                                                  refine q_RP_cF ?_
                                                  cases h28 : decide (a1 = 150) with
                                                  | true =>
                                                    refine q_RP_cT ?_
                                                    refine q_RP_st1 (g2 := (407, [(0, .ref 64), (1, .int a1), (2, .int a2)], [], (q_kM s c n))) rfl (by rw [of_decide_eq_true h28]; rfl) ?_
                                                    refine q_RP_seg (g2 := (409, [(0, .ref 64), (1, .int a1), (2, .int a2)], [.int a1, .ref 64], (q_kM s c n))) 2 (fun _ _ => rfl) ?_
                                                    refine q_RP_bd fun r45 er45 => ?_
                                                    refine q_RP_call (v := none) (h2 := (q_kM r45 c n)) rfl rfl ((dzt_M272_64 s c n a1 r45 er45).le (Nat.le_of_ble_eq_true rfl)) ?_
                                                    show q_RP _ _ _ (412, [(0, .ref 64), (1, .int a1), (2, .int a2)], [], (q_kM r45 c n)) _ _
                                                    refine q_RP_seg (g2 := (431, [(0, .ref 64), (1, .int a1), (2, .int a2)], [.int (a2 + 1), .int 4, .ref 78], (q_kM r45 c n))) 7 (fun _ _ => rfl) ?_
                                                    refine q_RP_call (v := (some (.int (dz_M213 r45 (a2 + 1))))) (h2 := (q_kM r45 c n)) rfl rfl ((dzt_M213 r45 c n (a2 + 1)).le (Nat.le_of_ble_eq_true rfl)) ?_
                                                    generalize dz_M213 r45 (a2 + 1) = r46
                                                    refine q_RP_let ?_
                                                    show q_RP _ _ _ (434, [(0, .ref 64), (1, .int a1), (2, .int a2)], [.int r46, .int 4, .ref 78], (q_kM r45 c n)) _ _
                                                    refine q_RP_seg (g2 := (435, [(0, .ref 64), (1, .int a1), (2, .int a2)], [], (q_kM (q_sA r45 14 (upd (r45.1 14) 4 r46)) c n))) 1 (fun _ _ => rfl) ?_
                                                    exact q_RP_ret rfl rfl rfl
                                                  | false =>
                                                    refine q_RP_cF ?_
                                                    cases h29 : decide (a1 = 151) with
                                                    | true =>
                                                      refine q_RP_cT ?_
                                                      refine q_RP_st1 (g2 := (407, [(0, .ref 64), (1, .int a1), (2, .int a2)], [], (q_kM s c n))) rfl (by rw [of_decide_eq_true h29]; rfl) ?_
                                                      refine q_RP_seg (g2 := (409, [(0, .ref 64), (1, .int a1), (2, .int a2)], [.int a1, .ref 64], (q_kM s c n))) 2 (fun _ _ => rfl) ?_
                                                      refine q_RP_bd fun r47 er47 => ?_
                                                      refine q_RP_call (v := none) (h2 := (q_kM r47 c n)) rfl rfl ((dzt_M272_64 s c n a1 r47 er47).le (Nat.le_of_ble_eq_true rfl)) ?_
                                                      show q_RP _ _ _ (412, [(0, .ref 64), (1, .int a1), (2, .int a2)], [], (q_kM r47 c n)) _ _
                                                      refine q_RP_seg (g2 := (431, [(0, .ref 64), (1, .int a1), (2, .int a2)], [.int (a2 + 1), .int 4, .ref 78], (q_kM r47 c n))) 7 (fun _ _ => rfl) ?_
                                                      refine q_RP_call (v := (some (.int (dz_M213 r47 (a2 + 1))))) (h2 := (q_kM r47 c n)) rfl rfl ((dzt_M213 r47 c n (a2 + 1)).le (Nat.le_of_ble_eq_true rfl)) ?_
                                                      generalize dz_M213 r47 (a2 + 1) = r48
                                                      refine q_RP_let ?_
                                                      show q_RP _ _ _ (434, [(0, .ref 64), (1, .int a1), (2, .int a2)], [.int r48, .int 4, .ref 78], (q_kM r47 c n)) _ _
                                                      refine q_RP_seg (g2 := (435, [(0, .ref 64), (1, .int a1), (2, .int a2)], [], (q_kM (q_sA r47 14 (upd (r47.1 14) 4 r48)) c n))) 1 (fun _ _ => rfl) ?_
                                                      exact q_RP_ret rfl rfl rfl
                                                    | false =>
                                                      refine q_RP_cF ?_
                                                      cases h30 : decide (a1 = 152) with
                                                      | true =>
                                                        refine q_RP_cT ?_
                                                        refine q_RP_st1 (g2 := (407, [(0, .ref 64), (1, .int a1), (2, .int a2)], [], (q_kM s c n))) rfl (by rw [of_decide_eq_true h30]; rfl) ?_
                                                        refine q_RP_seg (g2 := (409, [(0, .ref 64), (1, .int a1), (2, .int a2)], [.int a1, .ref 64], (q_kM s c n))) 2 (fun _ _ => rfl) ?_
                                                        refine q_RP_bd fun r49 er49 => ?_
                                                        refine q_RP_call (v := none) (h2 := (q_kM r49 c n)) rfl rfl ((dzt_M272_64 s c n a1 r49 er49).le (Nat.le_of_ble_eq_true rfl)) ?_
                                                        show q_RP _ _ _ (412, [(0, .ref 64), (1, .int a1), (2, .int a2)], [], (q_kM r49 c n)) _ _
                                                        refine q_RP_seg (g2 := (431, [(0, .ref 64), (1, .int a1), (2, .int a2)], [.int (a2 + 1), .int 4, .ref 78], (q_kM r49 c n))) 7 (fun _ _ => rfl) ?_
                                                        refine q_RP_call (v := (some (.int (dz_M213 r49 (a2 + 1))))) (h2 := (q_kM r49 c n)) rfl rfl ((dzt_M213 r49 c n (a2 + 1)).le (Nat.le_of_ble_eq_true rfl)) ?_
                                                        generalize dz_M213 r49 (a2 + 1) = r50
                                                        refine q_RP_let ?_
                                                        show q_RP _ _ _ (434, [(0, .ref 64), (1, .int a1), (2, .int a2)], [.int r50, .int 4, .ref 78], (q_kM r49 c n)) _ _
                                                        refine q_RP_seg (g2 := (435, [(0, .ref 64), (1, .int a1), (2, .int a2)], [], (q_kM (q_sA r49 14 (upd (r49.1 14) 4 r50)) c n))) 1 (fun _ _ => rfl) ?_
                                                        exact q_RP_ret rfl rfl rfl
                                                      | false =>
                                                        refine q_RP_cF ?_
                                                        have h31 : a1 = 153 := Int32.toInt_inj.mp (by have e0 := q_neI h6 (n := 128); have e1 := q_neI h7 (n := 129); have e2 := q_neI h8 (n := 130); have e3 := q_neI h9 (n := 131); have e4 := q_neI h10 (n := 132); have e5 := q_neI h11 (n := 133); have e6 := q_neI h12 (n := 134); have e7 := q_neI h13 (n := 135); have e8 := q_neI h14 (n := 136); have e9 := q_neI h15 (n := 137); have e10 := q_neI h16 (n := 138); have e11 := q_neI h17 (n := 139); have e12 := q_neI h18 (n := 140); have e13 := q_neI h19 (n := 141); have e14 := q_neI h20 (n := 142); have e15 := q_neI h21 (n := 143); have e16 := q_neI h22 (n := 144); have e17 := q_neI h23 (n := 145); have e18 := q_neI h24 (n := 146); have e19 := q_neI h25 (n := 147); have e20 := q_neI h26 (n := 148); have e21 := q_neI h27 (n := 149); have e22 := q_neI h28 (n := 150); have e23 := q_neI h29 (n := 151); have e24 := q_neI h30 (n := 152); have l1 : 128 ≤ (a1).toInt := q_lo1 h4; have l2 : (a1).toInt ≤ 153 := q_hi2 h5; show (a1).toInt = 153; omega)
                                                        refine q_RP_st1 (g2 := (407, [(0, .ref 64), (1, .int a1), (2, .int a2)], [], (q_kM s c n))) rfl (by rw [h31]; rfl) ?_
                                                        refine q_RP_seg (g2 := (409, [(0, .ref 64), (1, .int a1), (2, .int a2)], [.int a1, .ref 64], (q_kM s c n))) 2 (fun _ _ => rfl) ?_
                                                        refine q_RP_bd fun r51 er51 => ?_
                                                        refine q_RP_call (v := none) (h2 := (q_kM r51 c n)) rfl rfl ((dzt_M272_64 s c n a1 r51 er51).le (Nat.le_of_ble_eq_true rfl)) ?_
                                                        show q_RP _ _ _ (412, [(0, .ref 64), (1, .int a1), (2, .int a2)], [], (q_kM r51 c n)) _ _
                                                        refine q_RP_seg (g2 := (431, [(0, .ref 64), (1, .int a1), (2, .int a2)], [.int (a2 + 1), .int 4, .ref 78], (q_kM r51 c n))) 7 (fun _ _ => rfl) ?_
                                                        refine q_RP_call (v := (some (.int (dz_M213 r51 (a2 + 1))))) (h2 := (q_kM r51 c n)) rfl rfl ((dzt_M213 r51 c n (a2 + 1)).le (Nat.le_of_ble_eq_true rfl)) ?_
                                                        generalize dz_M213 r51 (a2 + 1) = r52
                                                        refine q_RP_let ?_
                                                        show q_RP _ _ _ (434, [(0, .ref 64), (1, .int a1), (2, .int a2)], [.int r52, .int 4, .ref 78], (q_kM r51 c n)) _ _
                                                        refine q_RP_seg (g2 := (435, [(0, .ref 64), (1, .int a1), (2, .int a2)], [], (q_kM (q_sA r51 14 (upd (r51.1 14) 4 r52)) c n))) 1 (fun _ _ => rfl) ?_
                                                        exact q_RP_ret rfl rfl rfl
def dz_M246 (s : q_S) (a0 : Int32) : Int32 :=
  q_let (dz_M244 s a0) fun r1 => cond (decide (r1 < 0)) (q_let (dz_M202 s a0 157 159) fun r2 => cond r2 (3) (q_let (dz_M202 s a0 160 167) fun r3 => cond r3 (2) (1))) (q_let (dz_M202 s (a0 - a0 / 8 * 8) 3 5) fun r4 => cond r4 (3) (2))
set_option maxHeartbeats 4000000 in
theorem dzt_M246 (s : q_S) (c n : Nat) (a0 : Int32) : q_Ca q_TB0 3 245 [.int a0] (q_kM s c n) ((q_oP (q_kM s c n)) (dz_M246 s a0)) := by
  refine q_CaT_of (φ := (q_oP (q_kM s c n))) (Nat.le_of_ble_eq_true rfl) ?_
  unfold dz_M246
  refine q_RT_seg (g2 := (1, [(0, .int a0)], [.int a0], (q_kM s c n))) 1 (fun _ _ => rfl) ?_
  refine q_RT_call (v := (some (.int (dz_M244 s a0)))) (h2 := (q_kM s c n)) rfl rfl ((dzt_M244 s c n a0).le (Nat.le_of_ble_eq_true rfl)) ?_
  generalize dz_M244 s a0 = r1
  refine q_RT_let ?_
  show q_RT _ _ _ (4, [(0, .int a0)], [.int r1], (q_kM s c n)) _ _
  refine q_RT_seg (g2 := (6, [(1, .int r1), (0, .int a0)], [.int r1], (q_kM s c n))) 2 (fun _ _ => rfl) ?_
  cases h1 : decide (r1 < 0) with
  | true =>
    refine q_RT_cT ?_
    refine q_RT_rsT (g2 := (27, [(1, .int r1), (0, .int a0)], [], (q_kM s c n))) rfl rfl h1 ?_
    refine q_RT_seg (g2 := (34, [(1, .int r1), (0, .int a0)], [.int 159, .int 157, .int a0], (q_kM s c n))) 3 (fun _ _ => rfl) ?_
    refine q_RT_call (v := (some (.int (q_b (dz_M202 s a0 157 159))))) (h2 := (q_kM s c n)) rfl rfl ((dzt_M202 s c n a0 157 159).le (Nat.le_of_ble_eq_true rfl)) ?_
    generalize dz_M202 s a0 157 159 = r2
    refine q_RT_let ?_
    show q_RT _ _ _ (37, [(1, .int r1), (0, .int a0)], [.int (q_b r2)], (q_kM s c n)) _ _
    cases h2 : r2 with
    | true =>
      refine q_RT_cT ?_
      show q_RT _ _ _ (37, [(1, .int r1), (0, .int a0)], [.int 1], (q_kM s c n)) _ _
      refine q_RT_seg (g2 := (41, [(1, .int r1), (0, .int a0)], [.int 3], (q_kM s c n))) 2 (fun _ _ => rfl) ?_
      exact q_RT_ret rfl rfl rfl
    | false =>
      refine q_RT_cF ?_
      show q_RT _ _ _ (37, [(1, .int r1), (0, .int a0)], [.int 0], (q_kM s c n)) _ _
      refine q_RT_seg (g2 := (49, [(1, .int r1), (0, .int a0)], [.int 167, .int 160, .int a0], (q_kM s c n))) 4 (fun _ _ => rfl) ?_
      refine q_RT_call (v := (some (.int (q_b (dz_M202 s a0 160 167))))) (h2 := (q_kM s c n)) rfl rfl ((dzt_M202 s c n a0 160 167).le (Nat.le_of_ble_eq_true rfl)) ?_
      generalize dz_M202 s a0 160 167 = r3
      refine q_RT_let ?_
      show q_RT _ _ _ (52, [(1, .int r1), (0, .int a0)], [.int (q_b r3)], (q_kM s c n)) _ _
      cases h3 : r3 with
      | true =>
        refine q_RT_cT ?_
        show q_RT _ _ _ (52, [(1, .int r1), (0, .int a0)], [.int 1], (q_kM s c n)) _ _
        refine q_RT_seg (g2 := (60, [(1, .int r1), (0, .int a0)], [.int 2], (q_kM s c n))) 3 (fun _ _ => rfl) ?_
        exact q_RT_ret rfl rfl rfl
      | false =>
        refine q_RT_cF ?_
        show q_RT _ _ _ (52, [(1, .int r1), (0, .int a0)], [.int 0], (q_kM s c n)) _ _
        refine q_RT_seg (g2 := (60, [(1, .int r1), (0, .int a0)], [.int 1], (q_kM s c n))) 2 (fun _ _ => rfl) ?_
        exact q_RT_ret rfl rfl rfl
  | false =>
    refine q_RT_cF ?_
    refine q_RT_rsF (g2 := (9, [(1, .int r1), (0, .int a0)], [], (q_kM s c n))) rfl rfl h1 ?_
    refine q_RT_seg (g2 := (15, [(1, .int r1), (0, .int a0)], [.int 5, .int 3, .int (a0 - a0 / 8 * 8)], (q_kM s c n))) 5 (fun _ _ => rfl) ?_
    refine q_RT_call (v := (some (.int (q_b (dz_M202 s (a0 - a0 / 8 * 8) 3 5))))) (h2 := (q_kM s c n)) rfl rfl ((dzt_M202 s c n (a0 - a0 / 8 * 8) 3 5).le (Nat.le_of_ble_eq_true rfl)) ?_
    generalize dz_M202 s (a0 - a0 / 8 * 8) 3 5 = r4
    refine q_RT_let ?_
    show q_RT _ _ _ (18, [(1, .int r1), (0, .int a0)], [.int (q_b r4)], (q_kM s c n)) _ _
    cases h4 : r4 with
    | true =>
      refine q_RT_cT ?_
      show q_RT _ _ _ (18, [(1, .int r1), (0, .int a0)], [.int 1], (q_kM s c n)) _ _
      refine q_RT_seg (g2 := (26, [(1, .int r1), (0, .int a0)], [.int 3], (q_kM s c n))) 3 (fun _ _ => rfl) ?_
      exact q_RT_ret rfl rfl rfl
    | false =>
      refine q_RT_cF ?_
      show q_RT _ _ _ (18, [(1, .int r1), (0, .int a0)], [.int 0], (q_kM s c n)) _ _
      refine q_RT_seg (g2 := (26, [(1, .int r1), (0, .int a0)], [.int 2], (q_kM s c n))) 2 (fun _ _ => rfl) ?_
      exact q_RT_ret rfl rfl rfl
def dz_M263_64 (s : q_S) (a1 : Int32) (a2 : Int32) : Option (q_S) :=
  cond (q_in a1 24) (cond (decide ((s.1 14) (a1.toNatClampNeg) < a2)) (q_let (dz_M261_64 (q_sA s 15 (upd (s.1 15) 5 (vp_nar .boolean 0))) ((((s.1 14) (a1.toNatClampNeg)) - a2) &&& 255)) fun r1 => some r1.1) (q_let (dz_M261_64 (q_sA s 15 (upd (s.1 15) 5 (vp_nar .boolean 1))) ((((s.1 14) (a1.toNatClampNeg)) - a2) &&& 255)) fun r2 => some r2.1)) none
set_option maxHeartbeats 4000000 in
theorem dzt_M263_64 (s : q_S) (c n : Nat) (a1 : Int32) (a2 : Int32) (x : q_S) (h : dz_M263_64 s a1 a2 = some x) : q_Ca q_TB0 2 262 [.ref 64, .int a1, .int a2] (q_kM s c n) ((q_oSM c n) x) := by
  refine q_CaP_of (φ := (q_oSM c n)) (Nat.le_of_ble_eq_true rfl) ?_ h
  clear h
  unfold dz_M263_64
  refine q_RP_seg (g2 := (10, [(0, .ref 64), (1, .int a1), (2, .int a2)], [.int a1, .ref 78, .int 5, .ref 79], (q_kM s c n))) 6 (fun _ _ => rfl) ?_
  refine q_RP_as fun i1 => ?_
  refine q_RP_rsT (g2 := (11, [(0, .ref 64), (1, .int a1), (2, .int a2)], [.int ((s.1 14) (a1.toNatClampNeg)), .int 5, .ref 79], (q_kM s c n))) rfl rfl i1 ?_
  refine q_RP_seg (g2 := (12, [(0, .ref 64), (1, .int a1), (2, .int a2)], [.int a2, .int ((s.1 14) (a1.toNatClampNeg)), .int 5, .ref 79], (q_kM s c n))) 1 (fun _ _ => rfl) ?_
  cases h2 : decide ((s.1 14) (a1.toNatClampNeg) < a2) with
  | true =>
    refine q_RP_cT ?_
    refine q_RP_rsT (g2 := (19, [(0, .ref 64), (1, .int a1), (2, .int a2)], [.int 5, .ref 79], (q_kM s c n))) rfl rfl h2 ?_
    refine q_RP_seg (g2 := (27, [(0, .ref 64), (1, .int a1), (2, .int a2)], [.int a1, .ref 78, .ref 64], (q_kM (q_sA s 15 (upd (s.1 15) 5 (vp_nar .boolean 0))) c n))) 6 (fun _ _ => rfl) ?_
    refine q_RP_rsT (g2 := (28, [(0, .ref 64), (1, .int a1), (2, .int a2)], [.int ((s.1 14) (a1.toNatClampNeg)), .ref 64], (q_kM (q_sA s 15 (upd (s.1 15) 5 (vp_nar .boolean 0))) c n))) rfl rfl i1 ?_
    refine q_RP_seg (g2 := (34, [(0, .ref 64), (1, .int a1), (2, .int a2)], [.int ((((s.1 14) (a1.toNatClampNeg)) - a2) &&& 255), .ref 64], (q_kM (q_sA s 15 (upd (s.1 15) 5 (vp_nar .boolean 0))) c n))) 4 (fun _ _ => rfl) ?_
    refine q_RP_call (v := (some (.int (dz_M261_64 (q_sA s 15 (upd (s.1 15) 5 (vp_nar .boolean 0))) ((((s.1 14) (a1.toNatClampNeg)) - a2) &&& 255)).2))) (h2 := (q_kM (dz_M261_64 (q_sA s 15 (upd (s.1 15) 5 (vp_nar .boolean 0))) ((((s.1 14) (a1.toNatClampNeg)) - a2) &&& 255)).1 c n)) rfl rfl ((dzt_M261_64 (q_sA s 15 (upd (s.1 15) 5 (vp_nar .boolean 0))) c n ((((s.1 14) (a1.toNatClampNeg)) - a2) &&& 255)).le (Nat.le_of_ble_eq_true rfl)) ?_
    generalize dz_M261_64 (q_sA s 15 (upd (s.1 15) 5 (vp_nar .boolean 0))) ((((s.1 14) (a1.toNatClampNeg)) - a2) &&& 255) = r1
    refine q_RP_let ?_
    show q_RP _ _ _ (37, [(0, .ref 64), (1, .int a1), (2, .int a2)], [.int r1.2], (q_kM r1.1 c n)) _ _
    refine q_RP_seg (g2 := (38, [(0, .ref 64), (1, .int a1), (2, .int a2)], [], (q_kM r1.1 c n))) 1 (fun _ _ => rfl) ?_
    exact q_RP_ret rfl rfl rfl
  | false =>
    refine q_RP_cF ?_
    refine q_RP_rsF (g2 := (15, [(0, .ref 64), (1, .int a1), (2, .int a2)], [.int 5, .ref 79], (q_kM s c n))) rfl rfl h2 ?_
    refine q_RP_seg (g2 := (27, [(0, .ref 64), (1, .int a1), (2, .int a2)], [.int a1, .ref 78, .ref 64], (q_kM (q_sA s 15 (upd (s.1 15) 5 (vp_nar .boolean 1))) c n))) 7 (fun _ _ => rfl) ?_
    refine q_RP_rsT (g2 := (28, [(0, .ref 64), (1, .int a1), (2, .int a2)], [.int ((s.1 14) (a1.toNatClampNeg)), .ref 64], (q_kM (q_sA s 15 (upd (s.1 15) 5 (vp_nar .boolean 1))) c n))) rfl rfl i1 ?_
    refine q_RP_seg (g2 := (34, [(0, .ref 64), (1, .int a1), (2, .int a2)], [.int ((((s.1 14) (a1.toNatClampNeg)) - a2) &&& 255), .ref 64], (q_kM (q_sA s 15 (upd (s.1 15) 5 (vp_nar .boolean 1))) c n))) 4 (fun _ _ => rfl) ?_
    refine q_RP_call (v := (some (.int (dz_M261_64 (q_sA s 15 (upd (s.1 15) 5 (vp_nar .boolean 1))) ((((s.1 14) (a1.toNatClampNeg)) - a2) &&& 255)).2))) (h2 := (q_kM (dz_M261_64 (q_sA s 15 (upd (s.1 15) 5 (vp_nar .boolean 1))) ((((s.1 14) (a1.toNatClampNeg)) - a2) &&& 255)).1 c n)) rfl rfl ((dzt_M261_64 (q_sA s 15 (upd (s.1 15) 5 (vp_nar .boolean 1))) c n ((((s.1 14) (a1.toNatClampNeg)) - a2) &&& 255)).le (Nat.le_of_ble_eq_true rfl)) ?_
    generalize dz_M261_64 (q_sA s 15 (upd (s.1 15) 5 (vp_nar .boolean 1))) ((((s.1 14) (a1.toNatClampNeg)) - a2) &&& 255) = r2
    refine q_RP_let ?_
    show q_RP _ _ _ (37, [(0, .ref 64), (1, .int a1), (2, .int a2)], [.int r2.2], (q_kM r2.1 c n)) _ _
    refine q_RP_seg (g2 := (38, [(0, .ref 64), (1, .int a1), (2, .int a2)], [], (q_kM r2.1 c n))) 1 (fun _ _ => rfl) ?_
    exact q_RP_ret rfl rfl rfl
def dz_M264_64 (s : q_S) (a1 : Int32) : Option (q_S) :=
  (dz_M257_64 s 5 1).bind fun r2 => cond (decide (((((s.1 14) 0) ^^^ ((((s.1 14) 0) + a1) + r2)) &&& (a1 ^^^ ((((s.1 14) 0) + a1) + r2))) &&& 128 = 0)) (cond (decide (255 < (((s.1 14) 0) + a1) + r2)) (q_let ((q_sA s 15 (upd (s.1 15) 1 (vp_nar .boolean 0)))) fun r3 => some (q_sA (q_sA r3 15 (upd (r3.1 15) 5 (vp_nar .boolean 1))) 14 (upd (r3.1 14) 0 (((((s.1 14) 0) + a1) + r2) - ((((s.1 14) 0) + a1) + r2) / 256 * 256)))) (q_let ((q_sA s 15 (upd (s.1 15) 1 (vp_nar .boolean 0)))) fun r4 => some (q_sA (q_sA r4 15 (upd (r4.1 15) 5 (vp_nar .boolean 0))) 14 (upd (r4.1 14) 0 (((((s.1 14) 0) + a1) + r2) - ((((s.1 14) 0) + a1) + r2) / 256 * 256))))) (cond (decide (255 < (((s.1 14) 0) + a1) + r2)) (q_let ((q_sA s 15 (upd (s.1 15) 1 (vp_nar .boolean 1)))) fun r5 => some (q_sA (q_sA r5 15 (upd (r5.1 15) 5 (vp_nar .boolean 1))) 14 (upd (r5.1 14) 0 (((((s.1 14) 0) + a1) + r2) - ((((s.1 14) 0) + a1) + r2) / 256 * 256)))) (q_let ((q_sA s 15 (upd (s.1 15) 1 (vp_nar .boolean 1)))) fun r6 => some (q_sA (q_sA r6 15 (upd (r6.1 15) 5 (vp_nar .boolean 0))) 14 (upd (r6.1 14) 0 (((((s.1 14) 0) + a1) + r2) - ((((s.1 14) 0) + a1) + r2) / 256 * 256)))))
set_option maxHeartbeats 4000000 in
theorem dzt_M264_64 (s : q_S) (c n : Nat) (a1 : Int32) (x : q_S) (h : dz_M264_64 s a1 = some x) : q_Ca q_TB0 2 263 [.ref 64, .int a1] (q_kM s c n) ((q_oSM c n) x) := by
  refine q_CaP_of (φ := (q_oSM c n)) (Nat.le_of_ble_eq_true rfl) ?_ h
  clear h
  unfold dz_M264_64
  refine q_RP_seg (g2 := (6, [(0, .ref 64), (1, .int a1)], [.int ((s.1 14) 0)], (q_kM s c n))) 4 (fun _ _ => rfl) ?_
  refine q_RP_seg (g2 := (11, [(0, .ref 64), (1, .int a1)], [.int 1, .int 5, .ref 64, .int (((s.1 14) 0) + a1)], (q_kM s c n))) 5 (fun _ _ => rfl) ?_
  refine q_RP_bd fun r2 er2 => ?_
  refine q_RP_call (v := (some (.int r2))) (h2 := (q_kM s c n)) rfl rfl ((dzt_M257_64 s c n 5 1 r2 er2).le (Nat.le_of_ble_eq_true rfl)) ?_
  show q_RP _ _ _ (14, [(0, .ref 64), (1, .int a1)], [.int r2, .int (((s.1 14) 0) + a1)], (q_kM s c n)) _ _
  refine q_RP_seg (g2 := (27, [(2, .int ((((s.1 14) 0) + a1) + r2)), (0, .ref 64), (1, .int a1)], [.int ((s.1 14) 0), .int 1, .ref 79], (q_kM s c n))) 9 (fun _ _ => rfl) ?_
  refine q_RP_seg (g2 := (37, [(2, .int ((((s.1 14) 0) + a1) + r2)), (0, .ref 64), (1, .int a1)], [.int (((((s.1 14) 0) ^^^ ((((s.1 14) 0) + a1) + r2)) &&& (a1 ^^^ ((((s.1 14) 0) + a1) + r2))) &&& 128), .int 1, .ref 79], (q_kM s c n))) 8 (fun _ _ => rfl) ?_
  cases h1 : decide (((((s.1 14) 0) ^^^ ((((s.1 14) 0) + a1) + r2)) &&& (a1 ^^^ ((((s.1 14) 0) + a1) + r2))) &&& 128 = 0) with
  | true =>
    refine q_RP_cT ?_
    refine q_RP_rsT (g2 := (44, [(2, .int ((((s.1 14) 0) + a1) + r2)), (0, .ref 64), (1, .int a1)], [.int 1, .ref 79], (q_kM s c n))) rfl rfl h1 ?_
    refine q_RP_seg (g2 := (55, [(2, .int ((((s.1 14) 0) + a1) + r2)), (0, .ref 64), (1, .int a1)], [.int 255, .int ((((s.1 14) 0) + a1) + r2), .int 5, .ref 79], (q_kM (q_sA s 15 (upd (s.1 15) 1 (vp_nar .boolean 0))) c n))) 7 (fun _ _ => rfl) ?_
    cases h2 : decide (255 < (((s.1 14) 0) + a1) + r2) with
    | true =>
      refine q_RP_cT ?_
      refine q_RP_rsF (g2 := (58, [(2, .int ((((s.1 14) 0) + a1) + r2)), (0, .ref 64), (1, .int a1)], [.int 5, .ref 79], (q_kM (q_sA s 15 (upd (s.1 15) 1 (vp_nar .boolean 0))) c n))) rfl rfl (q_d_geT h2) ?_
      refine q_RP_seg (g2 := (63, [(2, .int ((((s.1 14) 0) + a1) + r2)), (0, .ref 64), (1, .int a1)], [.int 1, .int 5, .ref 79], (q_kM (q_sA s 15 (upd (s.1 15) 1 (vp_nar .boolean 0))) c n))) 2 (fun _ _ => rfl) ?_
      generalize (q_sA s 15 (upd (s.1 15) 1 (vp_nar .boolean 0))) = r3
      refine q_RP_let ?_
      show q_RP _ _ _ (63, [(2, .int ((((s.1 14) 0) + a1) + r2)), (0, .ref 64), (1, .int a1)], [.int 1, .int 5, .ref 79], (q_kM r3 c n)) _ _
      refine q_RP_seg (g2 := (75, [(2, .int ((((s.1 14) 0) + a1) + r2)), (0, .ref 64), (1, .int a1)], [], (q_kM (q_sA (q_sA r3 15 (upd (r3.1 15) 5 (vp_nar .boolean 1))) 14 (upd (r3.1 14) 0 (((((s.1 14) 0) + a1) + r2) - ((((s.1 14) 0) + a1) + r2) / 256 * 256))) c n))) 8 (fun _ _ => rfl) ?_
      exact q_RP_ret rfl rfl rfl
    | false =>
      refine q_RP_cF ?_
      refine q_RP_rsT (g2 := (62, [(2, .int ((((s.1 14) 0) + a1) + r2)), (0, .ref 64), (1, .int a1)], [.int 5, .ref 79], (q_kM (q_sA s 15 (upd (s.1 15) 1 (vp_nar .boolean 0))) c n))) rfl rfl (q_d_geF h2) ?_
      refine q_RP_seg (g2 := (63, [(2, .int ((((s.1 14) 0) + a1) + r2)), (0, .ref 64), (1, .int a1)], [.int 0, .int 5, .ref 79], (q_kM (q_sA s 15 (upd (s.1 15) 1 (vp_nar .boolean 0))) c n))) 1 (fun _ _ => rfl) ?_
      generalize (q_sA s 15 (upd (s.1 15) 1 (vp_nar .boolean 0))) = r4
      refine q_RP_let ?_
      show q_RP _ _ _ (63, [(2, .int ((((s.1 14) 0) + a1) + r2)), (0, .ref 64), (1, .int a1)], [.int 0, .int 5, .ref 79], (q_kM r4 c n)) _ _
      refine q_RP_seg (g2 := (75, [(2, .int ((((s.1 14) 0) + a1) + r2)), (0, .ref 64), (1, .int a1)], [], (q_kM (q_sA (q_sA r4 15 (upd (r4.1 15) 5 (vp_nar .boolean 0))) 14 (upd (r4.1 14) 0 (((((s.1 14) 0) + a1) + r2) - ((((s.1 14) 0) + a1) + r2) / 256 * 256))) c n))) 8 (fun _ _ => rfl) ?_
      exact q_RP_ret rfl rfl rfl
  | false =>
    refine q_RP_cF ?_
    refine q_RP_rsF (g2 := (40, [(2, .int ((((s.1 14) 0) + a1) + r2)), (0, .ref 64), (1, .int a1)], [.int 1, .ref 79], (q_kM s c n))) rfl rfl h1 ?_
    refine q_RP_seg (g2 := (55, [(2, .int ((((s.1 14) 0) + a1) + r2)), (0, .ref 64), (1, .int a1)], [.int 255, .int ((((s.1 14) 0) + a1) + r2), .int 5, .ref 79], (q_kM (q_sA s 15 (upd (s.1 15) 1 (vp_nar .boolean 1))) c n))) 8 (fun _ _ => rfl) ?_
    cases h3 : decide (255 < (((s.1 14) 0) + a1) + r2) with
    | true =>
      refine q_RP_cT ?_
      refine q_RP_rsF (g2 := (58, [(2, .int ((((s.1 14) 0) + a1) + r2)), (0, .ref 64), (1, .int a1)], [.int 5, .ref 79], (q_kM (q_sA s 15 (upd (s.1 15) 1 (vp_nar .boolean 1))) c n))) rfl rfl (q_d_geT h3) ?_
      refine q_RP_seg (g2 := (63, [(2, .int ((((s.1 14) 0) + a1) + r2)), (0, .ref 64), (1, .int a1)], [.int 1, .int 5, .ref 79], (q_kM (q_sA s 15 (upd (s.1 15) 1 (vp_nar .boolean 1))) c n))) 2 (fun _ _ => rfl) ?_
      generalize (q_sA s 15 (upd (s.1 15) 1 (vp_nar .boolean 1))) = r5
      refine q_RP_let ?_
      show q_RP _ _ _ (63, [(2, .int ((((s.1 14) 0) + a1) + r2)), (0, .ref 64), (1, .int a1)], [.int 1, .int 5, .ref 79], (q_kM r5 c n)) _ _
      refine q_RP_seg (g2 := (75, [(2, .int ((((s.1 14) 0) + a1) + r2)), (0, .ref 64), (1, .int a1)], [], (q_kM (q_sA (q_sA r5 15 (upd (r5.1 15) 5 (vp_nar .boolean 1))) 14 (upd (r5.1 14) 0 (((((s.1 14) 0) + a1) + r2) - ((((s.1 14) 0) + a1) + r2) / 256 * 256))) c n))) 8 (fun _ _ => rfl) ?_
      exact q_RP_ret rfl rfl rfl
    | false =>
      refine q_RP_cF ?_
      refine q_RP_rsT (g2 := (62, [(2, .int ((((s.1 14) 0) + a1) + r2)), (0, .ref 64), (1, .int a1)], [.int 5, .ref 79], (q_kM (q_sA s 15 (upd (s.1 15) 1 (vp_nar .boolean 1))) c n))) rfl rfl (q_d_geF h3) ?_
      refine q_RP_seg (g2 := (63, [(2, .int ((((s.1 14) 0) + a1) + r2)), (0, .ref 64), (1, .int a1)], [.int 0, .int 5, .ref 79], (q_kM (q_sA s 15 (upd (s.1 15) 1 (vp_nar .boolean 1))) c n))) 1 (fun _ _ => rfl) ?_
      generalize (q_sA s 15 (upd (s.1 15) 1 (vp_nar .boolean 1))) = r6
      refine q_RP_let ?_
      show q_RP _ _ _ (63, [(2, .int ((((s.1 14) 0) + a1) + r2)), (0, .ref 64), (1, .int a1)], [.int 0, .int 5, .ref 79], (q_kM r6 c n)) _ _
      refine q_RP_seg (g2 := (75, [(2, .int ((((s.1 14) 0) + a1) + r2)), (0, .ref 64), (1, .int a1)], [], (q_kM (q_sA (q_sA r6 15 (upd (r6.1 15) 5 (vp_nar .boolean 0))) 14 (upd (r6.1 14) 0 (((((s.1 14) 0) + a1) + r2) - ((((s.1 14) 0) + a1) + r2) / 256 * 256))) c n))) 8 (fun _ _ => rfl) ?_
      exact q_RP_ret rfl rfl rfl
def dz_M266_64 (s : q_S) (a1 : Int32) (a2 : Int32) (a3 : Int32) : q_S :=
  cond (decide ((((a1 - a1 / 16 * 16) - (a2 - a2 / 16 * 16)) - 1) + a3 < 0)) (q_let (((((a1 - a1 / 16 * 16) - (a2 - a2 / 16 * 16)) - 1) + a3) + 10) fun x1 => cond (decide (((a1 / 16) - (a2 / 16)) - 1 < 0)) ((q_sA (q_sA s 15 (upd (s.1 15) 5 (vp_nar .boolean 0))) 14 (upd (s.1 14) 0 (((16 * ((((a1 / 16) - (a2 / 16)) - 1) + 10)) + x1) &&& 255)))) ((q_sA (q_sA s 15 (upd (s.1 15) 5 (vp_nar .boolean 1))) 14 (upd (s.1 14) 0 (((16 * ((((a1 / 16) - (a2 / 16)) - 1) + 0)) + x1) &&& 255))))) (cond (decide (((a1 / 16) - (a2 / 16)) - 0 < 0)) ((q_sA (q_sA s 15 (upd (s.1 15) 5 (vp_nar .boolean 0))) 14 (upd (s.1 14) 0 (((16 * ((((a1 / 16) - (a2 / 16)) - 0) + 10)) + (((((a1 - a1 / 16 * 16) - (a2 - a2 / 16 * 16)) - 1) + a3) + 0)) &&& 255)))) ((q_sA (q_sA s 15 (upd (s.1 15) 5 (vp_nar .boolean 1))) 14 (upd (s.1 14) 0 (((16 * ((((a1 / 16) - (a2 / 16)) - 0) + 0)) + (((((a1 - a1 / 16 * 16) - (a2 - a2 / 16 * 16)) - 1) + a3) + 0)) &&& 255)))))
set_option maxHeartbeats 4000000 in
theorem dzt_M266_64 (s : q_S) (c n : Nat) (a1 : Int32) (a2 : Int32) (a3 : Int32) : q_Ca q_TB0 1 265 [.ref 64, .int a1, .int a2, .int a3] (q_kM s c n) ((q_oSM c n) (dz_M266_64 s a1 a2 a3)) := by
  refine q_CaT_of (φ := (q_oSM c n)) (Nat.le_of_ble_eq_true rfl) ?_
  unfold dz_M266_64
  refine q_RT_seg (g2 := (26, [(4, .int ((((a1 - a1 / 16 * 16) - (a2 - a2 / 16 * 16)) - 1) + a3)), (0, .ref 64), (1, .int a1), (2, .int a2), (3, .int a3)], [.int ((((a1 - a1 / 16 * 16) - (a2 - a2 / 16 * 16)) - 1) + a3), .int ((a1 / 16) - (a2 / 16))], (q_kM s c n))) 20 (fun _ _ => rfl) ?_
  cases h1 : decide ((((a1 - a1 / 16 * 16) - (a2 - a2 / 16 * 16)) - 1) + a3 < 0) with
  | true =>
    refine q_RT_cT ?_
    refine q_RT_rsF (g2 := (29, [(4, .int ((((a1 - a1 / 16 * 16) - (a2 - a2 / 16 * 16)) - 1) + a3)), (0, .ref 64), (1, .int a1), (2, .int a2), (3, .int a3)], [.int ((a1 / 16) - (a2 / 16))], (q_kM s c n))) rfl rfl (q_d_geT h1) ?_
    refine q_RT_seg (g2 := (41, [(5, .int (((a1 / 16) - (a2 / 16)) - 1)), (4, .int ((((a1 - a1 / 16 * 16) - (a2 - a2 / 16 * 16)) - 1) + a3)), (0, .ref 64), (1, .int a1), (2, .int a2), (3, .int a3)], [.int ((((a1 - a1 / 16 * 16) - (a2 - a2 / 16 * 16)) - 1) + a3), .int ((((a1 - a1 / 16 * 16) - (a2 - a2 / 16 * 16)) - 1) + a3)], (q_kM s c n))) 6 (fun _ _ => rfl) ?_
    refine q_RT_rsF (g2 := (44, [(5, .int (((a1 / 16) - (a2 / 16)) - 1)), (4, .int ((((a1 - a1 / 16 * 16) - (a2 - a2 / 16 * 16)) - 1) + a3)), (0, .ref 64), (1, .int a1), (2, .int a2), (3, .int a3)], [.int ((((a1 - a1 / 16 * 16) - (a2 - a2 / 16 * 16)) - 1) + a3)], (q_kM s c n))) rfl rfl (q_d_geT h1) ?_
    refine q_RT_seg (g2 := (51, [(5, .int (((a1 / 16) - (a2 / 16)) - 1)), (4, .int ((((a1 - a1 / 16 * 16) - (a2 - a2 / 16 * 16)) - 1) + a3)), (0, .ref 64), (1, .int a1), (2, .int a2), (3, .int a3)], [.int (((((a1 - a1 / 16 * 16) - (a2 - a2 / 16 * 16)) - 1) + a3) + 10)], (q_kM s c n))) 3 (fun _ _ => rfl) ?_
    generalize (((((a1 - a1 / 16 * 16) - (a2 - a2 / 16 * 16)) - 1) + a3) + 10) = x1
    refine q_RT_let ?_
    show q_RT _ _ _ (51, [(5, .int (((a1 / 16) - (a2 / 16)) - 1)), (4, .int ((((a1 - a1 / 16 * 16) - (a2 - a2 / 16 * 16)) - 1) + a3)), (0, .ref 64), (1, .int a1), (2, .int a2), (3, .int a3)], [.int x1], (q_kM s c n)) _ _
    refine q_RT_seg (g2 := (60, [(4, .int x1), (5, .int (((a1 / 16) - (a2 / 16)) - 1)), (0, .ref 64), (1, .int a1), (2, .int a2), (3, .int a3)], [.int (((a1 / 16) - (a2 / 16)) - 1), .int 5, .ref 79], (q_kM s c n))) 5 (fun _ _ => rfl) ?_
    cases h2 : decide (((a1 / 16) - (a2 / 16)) - 1 < 0) with
    | true =>
      refine q_RT_cT ?_
      refine q_RT_rsT (g2 := (67, [(4, .int x1), (5, .int (((a1 / 16) - (a2 / 16)) - 1)), (0, .ref 64), (1, .int a1), (2, .int a2), (3, .int a3)], [.int 5, .ref 79], (q_kM s c n))) rfl rfl h2 ?_
      refine q_RT_seg (g2 := (73, [(4, .int x1), (5, .int (((a1 / 16) - (a2 / 16)) - 1)), (0, .ref 64), (1, .int a1), (2, .int a2), (3, .int a3)], [.int (((a1 / 16) - (a2 / 16)) - 1), .int (((a1 / 16) - (a2 / 16)) - 1)], (q_kM (q_sA s 15 (upd (s.1 15) 5 (vp_nar .boolean 0))) c n))) 4 (fun _ _ => rfl) ?_
      refine q_RT_rsF (g2 := (76, [(4, .int x1), (5, .int (((a1 / 16) - (a2 / 16)) - 1)), (0, .ref 64), (1, .int a1), (2, .int a2), (3, .int a3)], [.int (((a1 / 16) - (a2 / 16)) - 1)], (q_kM (q_sA s 15 (upd (s.1 15) 5 (vp_nar .boolean 0))) c n))) rfl rfl (q_d_geT h2) ?_
      refine q_RT_seg (g2 := (103, [(5, .int ((((a1 / 16) - (a2 / 16)) - 1) + 10)), (4, .int x1), (0, .ref 64), (1, .int a1), (2, .int a2), (3, .int a3)], [], (q_kM (q_sA (q_sA s 15 (upd (s.1 15) 5 (vp_nar .boolean 0))) 14 (upd (s.1 14) 0 (((16 * ((((a1 / 16) - (a2 / 16)) - 1) + 10)) + x1) &&& 255))) c n))) 15 (fun _ _ => rfl) ?_
      exact q_RT_ret rfl rfl rfl
    | false =>
      refine q_RT_cF ?_
      refine q_RT_rsF (g2 := (63, [(4, .int x1), (5, .int (((a1 / 16) - (a2 / 16)) - 1)), (0, .ref 64), (1, .int a1), (2, .int a2), (3, .int a3)], [.int 5, .ref 79], (q_kM s c n))) rfl rfl h2 ?_
      refine q_RT_seg (g2 := (73, [(4, .int x1), (5, .int (((a1 / 16) - (a2 / 16)) - 1)), (0, .ref 64), (1, .int a1), (2, .int a2), (3, .int a3)], [.int (((a1 / 16) - (a2 / 16)) - 1), .int (((a1 / 16) - (a2 / 16)) - 1)], (q_kM (q_sA s 15 (upd (s.1 15) 5 (vp_nar .boolean 1))) c n))) 5 (fun _ _ => rfl) ?_
      refine q_RT_rsT (g2 := (81, [(4, .int x1), (5, .int (((a1 / 16) - (a2 / 16)) - 1)), (0, .ref 64), (1, .int a1), (2, .int a2), (3, .int a3)], [.int (((a1 / 16) - (a2 / 16)) - 1)], (q_kM (q_sA s 15 (upd (s.1 15) 5 (vp_nar .boolean 1))) c n))) rfl rfl (q_d_geF h2) ?_
      refine q_RT_seg (g2 := (103, [(5, .int ((((a1 / 16) - (a2 / 16)) - 1) + 0)), (4, .int x1), (0, .ref 64), (1, .int a1), (2, .int a2), (3, .int a3)], [], (q_kM (q_sA (q_sA s 15 (upd (s.1 15) 5 (vp_nar .boolean 1))) 14 (upd (s.1 14) 0 (((16 * ((((a1 / 16) - (a2 / 16)) - 1) + 0)) + x1) &&& 255))) c n))) 14 (fun _ _ => rfl) ?_
      exact q_RT_ret rfl rfl rfl
  | false =>
    refine q_RT_cF ?_
    refine q_RT_rsT (g2 := (33, [(4, .int ((((a1 - a1 / 16 * 16) - (a2 - a2 / 16 * 16)) - 1) + a3)), (0, .ref 64), (1, .int a1), (2, .int a2), (3, .int a3)], [.int ((a1 / 16) - (a2 / 16))], (q_kM s c n))) rfl rfl (q_d_geF h1) ?_
    refine q_RT_seg (g2 := (41, [(5, .int (((a1 / 16) - (a2 / 16)) - 0)), (4, .int ((((a1 - a1 / 16 * 16) - (a2 - a2 / 16 * 16)) - 1) + a3)), (0, .ref 64), (1, .int a1), (2, .int a2), (3, .int a3)], [.int ((((a1 - a1 / 16 * 16) - (a2 - a2 / 16 * 16)) - 1) + a3), .int ((((a1 - a1 / 16 * 16) - (a2 - a2 / 16 * 16)) - 1) + a3)], (q_kM s c n))) 5 (fun _ _ => rfl) ?_
    refine q_RT_rsT (g2 := (49, [(5, .int (((a1 / 16) - (a2 / 16)) - 0)), (4, .int ((((a1 - a1 / 16 * 16) - (a2 - a2 / 16 * 16)) - 1) + a3)), (0, .ref 64), (1, .int a1), (2, .int a2), (3, .int a3)], [.int ((((a1 - a1 / 16 * 16) - (a2 - a2 / 16 * 16)) - 1) + a3)], (q_kM s c n))) rfl rfl (q_d_geF h1) ?_
    refine q_RT_seg (g2 := (60, [(4, .int (((((a1 - a1 / 16 * 16) - (a2 - a2 / 16 * 16)) - 1) + a3) + 0)), (5, .int (((a1 / 16) - (a2 / 16)) - 0)), (0, .ref 64), (1, .int a1), (2, .int a2), (3, .int a3)], [.int (((a1 / 16) - (a2 / 16)) - 0), .int 5, .ref 79], (q_kM s c n))) 7 (fun _ _ => rfl) ?_
    cases h3 : decide (((a1 / 16) - (a2 / 16)) - 0 < 0) with
    | true =>
      refine q_RT_cT ?_
      refine q_RT_rsT (g2 := (67, [(4, .int (((((a1 - a1 / 16 * 16) - (a2 - a2 / 16 * 16)) - 1) + a3) + 0)), (5, .int (((a1 / 16) - (a2 / 16)) - 0)), (0, .ref 64), (1, .int a1), (2, .int a2), (3, .int a3)], [.int 5, .ref 79], (q_kM s c n))) rfl rfl h3 ?_
      refine q_RT_seg (g2 := (73, [(4, .int (((((a1 - a1 / 16 * 16) - (a2 - a2 / 16 * 16)) - 1) + a3) + 0)), (5, .int (((a1 / 16) - (a2 / 16)) - 0)), (0, .ref 64), (1, .int a1), (2, .int a2), (3, .int a3)], [.int (((a1 / 16) - (a2 / 16)) - 0), .int (((a1 / 16) - (a2 / 16)) - 0)], (q_kM (q_sA s 15 (upd (s.1 15) 5 (vp_nar .boolean 0))) c n))) 4 (fun _ _ => rfl) ?_
      refine q_RT_rsF (g2 := (76, [(4, .int (((((a1 - a1 / 16 * 16) - (a2 - a2 / 16 * 16)) - 1) + a3) + 0)), (5, .int (((a1 / 16) - (a2 / 16)) - 0)), (0, .ref 64), (1, .int a1), (2, .int a2), (3, .int a3)], [.int (((a1 / 16) - (a2 / 16)) - 0)], (q_kM (q_sA s 15 (upd (s.1 15) 5 (vp_nar .boolean 0))) c n))) rfl rfl (q_d_geT h3) ?_
      refine q_RT_seg (g2 := (103, [(5, .int ((((a1 / 16) - (a2 / 16)) - 0) + 10)), (4, .int (((((a1 - a1 / 16 * 16) - (a2 - a2 / 16 * 16)) - 1) + a3) + 0)), (0, .ref 64), (1, .int a1), (2, .int a2), (3, .int a3)], [], (q_kM (q_sA (q_sA s 15 (upd (s.1 15) 5 (vp_nar .boolean 0))) 14 (upd (s.1 14) 0 (((16 * ((((a1 / 16) - (a2 / 16)) - 0) + 10)) + (((((a1 - a1 / 16 * 16) - (a2 - a2 / 16 * 16)) - 1) + a3) + 0)) &&& 255))) c n))) 15 (fun _ _ => rfl) ?_
      exact q_RT_ret rfl rfl rfl
    | false =>
      refine q_RT_cF ?_
      refine q_RT_rsF (g2 := (63, [(4, .int (((((a1 - a1 / 16 * 16) - (a2 - a2 / 16 * 16)) - 1) + a3) + 0)), (5, .int (((a1 / 16) - (a2 / 16)) - 0)), (0, .ref 64), (1, .int a1), (2, .int a2), (3, .int a3)], [.int 5, .ref 79], (q_kM s c n))) rfl rfl h3 ?_
      refine q_RT_seg (g2 := (73, [(4, .int (((((a1 - a1 / 16 * 16) - (a2 - a2 / 16 * 16)) - 1) + a3) + 0)), (5, .int (((a1 / 16) - (a2 / 16)) - 0)), (0, .ref 64), (1, .int a1), (2, .int a2), (3, .int a3)], [.int (((a1 / 16) - (a2 / 16)) - 0), .int (((a1 / 16) - (a2 / 16)) - 0)], (q_kM (q_sA s 15 (upd (s.1 15) 5 (vp_nar .boolean 1))) c n))) 5 (fun _ _ => rfl) ?_
      refine q_RT_rsT (g2 := (81, [(4, .int (((((a1 - a1 / 16 * 16) - (a2 - a2 / 16 * 16)) - 1) + a3) + 0)), (5, .int (((a1 / 16) - (a2 / 16)) - 0)), (0, .ref 64), (1, .int a1), (2, .int a2), (3, .int a3)], [.int (((a1 / 16) - (a2 / 16)) - 0)], (q_kM (q_sA s 15 (upd (s.1 15) 5 (vp_nar .boolean 1))) c n))) rfl rfl (q_d_geF h3) ?_
      refine q_RT_seg (g2 := (103, [(5, .int ((((a1 / 16) - (a2 / 16)) - 0) + 0)), (4, .int (((((a1 - a1 / 16 * 16) - (a2 - a2 / 16 * 16)) - 1) + a3) + 0)), (0, .ref 64), (1, .int a1), (2, .int a2), (3, .int a3)], [], (q_kM (q_sA (q_sA s 15 (upd (s.1 15) 5 (vp_nar .boolean 1))) 14 (upd (s.1 14) 0 (((16 * ((((a1 / 16) - (a2 / 16)) - 0) + 0)) + (((((a1 - a1 / 16 * 16) - (a2 - a2 / 16 * 16)) - 1) + a3) + 0)) &&& 255))) c n))) 14 (fun _ _ => rfl) ?_
      exact q_RT_ret rfl rfl rfl
def dz_M267_64_f_56 (s : q_S) (v2 : Int32) (v3 : Int32) (v4 : Int32) : Option (q_S) :=
  cond (decide ((s.1 15) 2 = 0)) (q_let (dz_M261_64 s ((s.1 14) 0)) fun r4 => some r4.1) (q_let (dz_M266_64 s v3 v2 v4) fun r5 => q_let (dz_M261_64 r5 ((r5.1 14) 0)) fun r6 => some r6.1)
set_option maxHeartbeats 4000000 in
theorem dzt_M267_64_f_56 (c n : Nat) (s : q_S) (v2 : Int32) (v3 : Int32) (v4 : Int32) : q_RP q_TB0 2 266 (56, [(0, .ref 64), (2, .int v2), (3, .int v3), (4, .int v4)], [], (q_kM s c n)) (q_oSM c n) (dz_M267_64_f_56 s v2 v3 v4) := by
  unfold dz_M267_64_f_56
  refine q_RP_seg (g2 := (62, [(0, .ref 64), (2, .int v2), (3, .int v3), (4, .int v4)], [.int ((s.1 15) 2)], (q_kM s c n))) 4 (fun _ _ => rfl) ?_
  cases h2 : decide ((s.1 15) 2 = 0) with
  | true =>
    refine q_RP_cT ?_
    refine q_RP_rsT (g2 := (73, [(0, .ref 64), (2, .int v2), (3, .int v3), (4, .int v4)], [], (q_kM s c n))) rfl rfl h2 ?_
    refine q_RP_seg (g2 := (80, [(0, .ref 64), (2, .int v2), (3, .int v3), (4, .int v4)], [.int ((s.1 14) 0), .ref 64], (q_kM s c n))) 5 (fun _ _ => rfl) ?_
    refine q_RP_call (v := (some (.int (dz_M261_64 s ((s.1 14) 0)).2))) (h2 := (q_kM (dz_M261_64 s ((s.1 14) 0)).1 c n)) rfl rfl ((dzt_M261_64 s c n ((s.1 14) 0)).le (Nat.le_of_ble_eq_true rfl)) ?_
    generalize dz_M261_64 s ((s.1 14) 0) = r4
    refine q_RP_let ?_
    show q_RP _ _ _ (83, [(0, .ref 64), (2, .int v2), (3, .int v3), (4, .int v4)], [.int r4.2], (q_kM r4.1 c n)) _ _
    refine q_RP_seg (g2 := (84, [(0, .ref 64), (2, .int v2), (3, .int v3), (4, .int v4)], [], (q_kM r4.1 c n))) 1 (fun _ _ => rfl) ?_
    exact q_RP_ret rfl rfl rfl
  | false =>
    refine q_RP_cF ?_
    refine q_RP_rsF (g2 := (65, [(0, .ref 64), (2, .int v2), (3, .int v3), (4, .int v4)], [], (q_kM s c n))) rfl rfl h2 ?_
    refine q_RP_seg (g2 := (70, [(0, .ref 64), (2, .int v2), (3, .int v3), (4, .int v4)], [.int v4, .int v2, .int v3, .ref 64], (q_kM s c n))) 4 (fun _ _ => rfl) ?_
    refine q_RP_call (v := none) (h2 := (q_kM (dz_M266_64 s v3 v2 v4) c n)) rfl rfl ((dzt_M266_64 s c n v3 v2 v4).le (Nat.le_of_ble_eq_true rfl)) ?_
    generalize dz_M266_64 s v3 v2 v4 = r5
    refine q_RP_let ?_
    show q_RP _ _ _ (73, [(0, .ref 64), (2, .int v2), (3, .int v3), (4, .int v4)], [], (q_kM r5 c n)) _ _
    refine q_RP_seg (g2 := (80, [(0, .ref 64), (2, .int v2), (3, .int v3), (4, .int v4)], [.int ((r5.1 14) 0), .ref 64], (q_kM r5 c n))) 5 (fun _ _ => rfl) ?_
    refine q_RP_call (v := (some (.int (dz_M261_64 r5 ((r5.1 14) 0)).2))) (h2 := (q_kM (dz_M261_64 r5 ((r5.1 14) 0)).1 c n)) rfl rfl ((dzt_M261_64 r5 c n ((r5.1 14) 0)).le (Nat.le_of_ble_eq_true rfl)) ?_
    generalize dz_M261_64 r5 ((r5.1 14) 0) = r6
    refine q_RP_let ?_
    show q_RP _ _ _ (83, [(0, .ref 64), (2, .int v2), (3, .int v3), (4, .int v4)], [.int r6.2], (q_kM r6.1 c n)) _ _
    refine q_RP_seg (g2 := (84, [(0, .ref 64), (2, .int v2), (3, .int v3), (4, .int v4)], [], (q_kM r6.1 c n))) 1 (fun _ _ => rfl) ?_
    exact q_RP_ret rfl rfl rfl
def dz_M267_64_f (s : q_S) (a2 : Int32) : Option (q_S) :=
  (dz_M257_64 s 5 1).bind fun r2 => (dz_M264_64 s ((255 : Int32) - a2)).bind fun r3 => cond (decide ((r3.1 15) 2 = 0)) (dz_M267_64_f_56 r3 a2 ((s.1 14) 0) r2) (dz_M267_64_f_56 r3 a2 ((s.1 14) 0) r2)
set_option maxHeartbeats 4000000 in
theorem dzt_M267_64_f (s : q_S) (c n : Nat) (a2 : Int32) (x : q_S) (h : dz_M267_64_f s a2 = some x) : q_Ca q_TB0 3 266 [.ref 64, .int 0, .int a2] (q_kM s c n) ((q_oSM c n) x) := by
  refine q_CaP_of (φ := (q_oSM c n)) (Nat.le_of_ble_eq_true rfl) ?_ h
  clear h
  unfold dz_M267_64_f
  refine q_RP_seg (g2 := (6, [(0, .ref 64), (1, .int 0), (2, .int a2)], [.int ((s.1 14) 0)], (q_kM s c n))) 4 (fun _ _ => rfl) ?_
  refine q_RP_seg (g2 := (10, [(3, .int ((s.1 14) 0)), (0, .ref 64), (1, .int 0), (2, .int a2)], [.int 1, .int 5, .ref 64], (q_kM s c n))) 4 (fun _ _ => rfl) ?_
  refine q_RP_bd fun r2 er2 => ?_
  refine q_RP_call (v := (some (.int r2))) (h2 := (q_kM s c n)) rfl rfl ((dzt_M257_64 s c n 5 1 r2 er2).le (Nat.le_of_ble_eq_true rfl)) ?_
  show q_RP _ _ _ (13, [(3, .int ((s.1 14) 0)), (0, .ref 64), (1, .int 0), (2, .int a2)], [.int r2], (q_kM s c n)) _ _
  refine q_RP_seg (g2 := (29, [(4, .int r2), (3, .int ((s.1 14) 0)), (0, .ref 64), (1, .int 0), (2, .int a2)], [.int ((255 : Int32) - a2), .ref 64], (q_kM s c n))) 7 (fun _ _ => rfl) ?_
  refine q_RP_bd fun r3 er3 => ?_
  refine q_RP_call (v := none) (h2 := (q_kM r3 c n)) rfl rfl ((dzt_M264_64 s c n ((255 : Int32) - a2) r3 er3).le (Nat.le_of_ble_eq_true rfl)) ?_
  show q_RP _ _ _ (32, [(4, .int r2), (3, .int ((s.1 14) 0)), (0, .ref 64), (1, .int 0), (2, .int a2)], [], (q_kM r3 c n)) _ _
  refine q_RP_seg (g2 := (38, [(4, .int r2), (3, .int ((s.1 14) 0)), (0, .ref 64), (1, .int 0), (2, .int a2)], [.int ((r3.1 15) 2)], (q_kM r3 c n))) 4 (fun _ _ => rfl) ?_
  cases h1 : decide ((r3.1 15) 2 = 0) with
  | true =>
    refine q_RP_cT ?_
    refine q_RP_rsT (g2 := (56, [(4, .int r2), (3, .int ((s.1 14) 0)), (0, .ref 64), (1, .int 0), (2, .int a2)], [], (q_kM r3 c n))) rfl rfl h1 ?_
    exact q_RP_xt (q_xt_mk (q_mn1 2 rfl (q_mn1 4 rfl (q_mn1 1 rfl (q_mn1 0 rfl q_mn0)))) rfl) (dzt_M267_64_f_56 c n r3 a2 ((s.1 14) 0) r2)
  | false =>
    refine q_RP_cF ?_
    refine q_RP_rsF (g2 := (41, [(4, .int r2), (3, .int ((s.1 14) 0)), (0, .ref 64), (1, .int 0), (2, .int a2)], [], (q_kM r3 c n))) rfl rfl h1 ?_
    refine q_RP_seg (g2 := (56, [(4, .int r2), (3, .int ((s.1 14) 0)), (0, .ref 64), (1, .int 0), (2, .int a2)], [], (q_kM r3 c n))) 2 (fun _ _ => rfl) ?_
    exact q_RP_xt (q_xt_mk (q_mn1 2 rfl (q_mn1 4 rfl (q_mn1 1 rfl (q_mn1 0 rfl q_mn0)))) rfl) (dzt_M267_64_f_56 c n r3 a2 ((s.1 14) 0) r2)
def dz_M268_64 (s : q_S) (a1 : Int32) : Option (q_S × Int32) :=
  (dz_M214_64 s a1).bind fun r2 => cond (decide (a1 = 3869)) (cond (decide (a1 = 3870)) (q_let ((q_sA r2.1 14 (upd (r2.1.1 14) 10 0))) fun r3 => some ((q_sA r3 14 (upd (r3.1 14) 11 0)), r2.2)) (some ((q_sA r2.1 14 (upd (r2.1.1 14) 10 0)), r2.2))) (cond (decide (a1 = 3870)) (some ((q_sA r2.1 14 (upd (r2.1.1 14) 11 0)), r2.2)) (some (r2.1, r2.2)))
set_option maxHeartbeats 4000000 in
theorem dzt_M268_64 (s : q_S) (c n : Nat) (a1 : Int32) (x : q_S × Int32) (h : dz_M268_64 s a1 = some x) : q_Ca q_TB0 5 267 [.ref 64, .int a1] (q_kM s c n) ((q_oIM c n) x) := by
  refine q_CaP_of (φ := (q_oIM c n)) (Nat.le_of_ble_eq_true rfl) ?_ h
  clear h
  unfold dz_M268_64
  refine q_RP_seg (g2 := (2, [(0, .ref 64), (1, .int a1)], [.int a1, .ref 64], (q_kM s c n))) 2 (fun _ _ => rfl) ?_
  refine q_RP_bd fun r2 er2 => ?_
  refine q_RP_call (v := (some (.int r2.2))) (h2 := (q_kM r2.1 c n)) rfl rfl ((dzt_M214_64 s c n a1 r2 er2).le (Nat.le_of_ble_eq_true rfl)) ?_
  show q_RP _ _ _ (5, [(0, .ref 64), (1, .int a1)], [.int r2.2], (q_kM r2.1 c n)) _ _
  refine q_RP_seg (g2 := (10, [(2, .int r2.2), (0, .ref 64), (1, .int a1)], [.int 3869, .int a1], (q_kM r2.1 c n))) 3 (fun _ _ => rfl) ?_
  cases h1 : decide (a1 = 3869) with
  | true =>
    refine q_RP_cT ?_
    refine q_RP_rsF (g2 := (13, [(2, .int r2.2), (0, .ref 64), (1, .int a1)], [], (q_kM r2.1 c n))) rfl rfl (q_d_neT h1) ?_
    refine q_RP_seg (g2 := (25, [(2, .int r2.2), (0, .ref 64), (1, .int a1)], [.int 3870, .int a1], (q_kM (q_sA r2.1 14 (upd (r2.1.1 14) 10 0)) c n))) 7 (fun _ _ => rfl) ?_
    cases h2 : decide (a1 = 3870) with
    | true =>
      refine q_RP_cT ?_
      refine q_RP_rsF (g2 := (28, [(2, .int r2.2), (0, .ref 64), (1, .int a1)], [], (q_kM (q_sA r2.1 14 (upd (r2.1.1 14) 10 0)) c n))) rfl rfl (q_d_neT h2) ?_
      refine q_RP_seg (g2 := (35, [(2, .int r2.2), (0, .ref 64), (1, .int a1)], [.int 0, .int 11, .ref 78], (q_kM (q_sA r2.1 14 (upd (r2.1.1 14) 10 0)) c n))) 4 (fun _ _ => rfl) ?_
      generalize (q_sA r2.1 14 (upd (r2.1.1 14) 10 0)) = r3
      refine q_RP_let ?_
      show q_RP _ _ _ (35, [(2, .int r2.2), (0, .ref 64), (1, .int a1)], [.int 0, .int 11, .ref 78], (q_kM r3 c n)) _ _
      refine q_RP_seg (g2 := (37, [(2, .int r2.2), (0, .ref 64), (1, .int a1)], [.int r2.2], (q_kM (q_sA r3 14 (upd (r3.1 14) 11 0)) c n))) 2 (fun _ _ => rfl) ?_
      exact q_RP_ret rfl rfl rfl
    | false =>
      refine q_RP_cF ?_
      refine q_RP_rsT (g2 := (36, [(2, .int r2.2), (0, .ref 64), (1, .int a1)], [], (q_kM (q_sA r2.1 14 (upd (r2.1.1 14) 10 0)) c n))) rfl rfl (q_d_neF h2) ?_
      refine q_RP_seg (g2 := (37, [(2, .int r2.2), (0, .ref 64), (1, .int a1)], [.int r2.2], (q_kM (q_sA r2.1 14 (upd (r2.1.1 14) 10 0)) c n))) 1 (fun _ _ => rfl) ?_
      exact q_RP_ret rfl rfl rfl
  | false =>
    refine q_RP_cF ?_
    refine q_RP_rsT (g2 := (21, [(2, .int r2.2), (0, .ref 64), (1, .int a1)], [], (q_kM r2.1 c n))) rfl rfl (q_d_neF h1) ?_
    refine q_RP_seg (g2 := (25, [(2, .int r2.2), (0, .ref 64), (1, .int a1)], [.int 3870, .int a1], (q_kM r2.1 c n))) 2 (fun _ _ => rfl) ?_
    cases h3 : decide (a1 = 3870) with
    | true =>
      refine q_RP_cT ?_
      refine q_RP_rsF (g2 := (28, [(2, .int r2.2), (0, .ref 64), (1, .int a1)], [], (q_kM r2.1 c n))) rfl rfl (q_d_neT h3) ?_
      refine q_RP_seg (g2 := (37, [(2, .int r2.2), (0, .ref 64), (1, .int a1)], [.int r2.2], (q_kM (q_sA r2.1 14 (upd (r2.1.1 14) 11 0)) c n))) 6 (fun _ _ => rfl) ?_
      exact q_RP_ret rfl rfl rfl
    | false =>
      refine q_RP_cF ?_
      refine q_RP_rsT (g2 := (36, [(2, .int r2.2), (0, .ref 64), (1, .int a1)], [], (q_kM r2.1 c n))) rfl rfl (q_d_neF h3) ?_
      refine q_RP_seg (g2 := (37, [(2, .int r2.2), (0, .ref 64), (1, .int a1)], [.int r2.2], (q_kM r2.1 c n))) 1 (fun _ _ => rfl) ?_
      exact q_RP_ret rfl rfl rfl
